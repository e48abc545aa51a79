/-! PORT, the tokens. The tape's bytes B, how many: n. Of the token from place p on: where it begins (q_S), where it ends (q_E), what it is (q_K: 0 the end, 1 a name, 2 a number, 3 a sign, 4 none) -/
def q_run (q : Nat → Bool) (n : Nat) : Nat → Nat → Nat
  | 0, p => p
  | k + 1, p => if p < n ∧ q p = true then q_run q n k (p + 1) else p
def q_sp (b : Nat) : Bool := decide (b = 32) || decide (b = 10)
def q_lt (b : Nat) : Bool := decide (97 ≤ b) && decide (b ≤ 122)
def q_fg (b : Nat) : Bool := decide (48 ≤ b) && decide (b ≤ 57)
def q_S (B : Nat → Nat) (n p : Nat) : Nat := q_run (fun i => q_sp (B i)) n n p
def q_El (B : Nat → Nat) (n s : Nat) : Nat := q_run (fun i => q_lt (B i)) n n s
def q_Ef (B : Nat → Nat) (n s : Nat) : Nat := q_run (fun i => q_fg (B i)) n n s
def q_Es (B : Nat → Nat) (n s : Nat) : Nat := if n ≤ s then s else if q_lt (B s) = true then q_El B n s else if q_fg (B s) = true then q_Ef B n s else s + 1
def q_Ks (B : Nat → Nat) (n s : Nat) : Nat := if n ≤ s then 0 else if q_lt (B s) = true then 1 else if q_fg (B s) = true then (if q_Ef B n s - s ≤ 3 then 2 else 4) else if B s = 59 then 3 else 4
def q_E (B : Nat → Nat) (n p : Nat) : Nat := q_Es B n (q_S B n p)
def q_K (B : Nat → Nat) (n p : Nat) : Nat := q_Ks B n (q_S B n p)
theorem q_run_b {q : Nat → Bool} {n : Nat} : ∀ (k p : Nat), p ≤ n → p ≤ q_run q n k p ∧ q_run q n k p ≤ n ∧ ∀ i, p ≤ i → i < q_run q n k p → q i = true := by
  intro k
  induction k with
  | zero => intro p hp; exact ⟨Nat.le_refl _, hp, fun i h1 h2 => absurd h2 (by rw [q_run]; omega)⟩
  | succ k ih =>
    intro p hp
    rw [q_run]
    by_cases h : p < n ∧ q p = true
    · rw [if_pos h]
      obtain ⟨h1, h2, h3⟩ := ih (p + 1) (by omega)
      refine ⟨by omega, h2, fun i hi hj => ?_⟩
      by_cases e : i = p
      · rw [e]; exact h.2
      · exact h3 i (by omega) hj
    · rw [if_neg h]
      exact ⟨Nat.le_refl _, hp, fun i h1 h2 => absurd h2 (by omega)⟩
theorem q_S_b {B : Nat → Nat} {n p : Nat} (hp : p ≤ n) : q_S B n p ≤ n := (q_run_b n p hp).2.1
theorem q_Es_b {B : Nat → Nat} {n s : Nat} (hs : s ≤ n) : s ≤ q_Es B n s ∧ q_Es B n s ≤ n := by
  unfold q_Es q_El q_Ef
  split
  · exact ⟨Nat.le_refl _, hs⟩
  · split
    · exact ⟨(q_run_b n s hs).1, (q_run_b n s hs).2.1⟩
    · split
      · exact ⟨(q_run_b n s hs).1, (q_run_b n s hs).2.1⟩
      · omega
theorem q_E_b {B : Nat → Nat} {n p : Nat} (hp : p ≤ n) : q_S B n p ≤ q_E B n p ∧ q_E B n p ≤ n := q_Es_b (q_S_b hp)
theorem q_K1 {B : Nat → Nat} {n p : Nat} (hp : p ≤ n) (h : q_K B n p = 1) : ∀ i, q_S B n p ≤ i → i < q_E B n p → q_lt (B i) = true := by
  have hs := q_S_b (B := B) hp
  unfold q_K q_E at *
  generalize q_S B n p = s at *
  unfold q_Ks at h
  unfold q_Es
  split at h
  · cases h
  · rename_i h1
    rw [if_neg h1]
    split at h
    · rename_i h2
      rw [if_pos h2]
      exact (q_run_b n s hs).2.2
    · split at h
      · split at h <;> cases h
      · split at h <;> cases h
theorem q_K2 {B : Nat → Nat} {n p : Nat} (hp : p ≤ n) (h : q_K B n p = 2) : q_E B n p - q_S B n p ≤ 3 ∧ ∀ i, q_S B n p ≤ i → i < q_E B n p → q_fg (B i) = true := by
  have hs := q_S_b (B := B) hp
  unfold q_K q_E at *
  generalize q_S B n p = s at *
  unfold q_Ks at h
  unfold q_Es
  split at h
  · cases h
  · rename_i h1
    rw [if_neg h1]
    split at h
    · cases h
    · rename_i h2
      rw [if_neg h2]
      split at h
      · rename_i h3
        rw [if_pos h3]
        split at h
        · rename_i h4
          exact ⟨h4, (q_run_b n s hs).2.2⟩
        · cases h
      · split at h <;> cases h
theorem q_K_le {B : Nat → Nat} {n p : Nat} : q_K B n p ≤ 4 := by
  unfold q_K q_Ks
  repeat' split
  all_goals omega
def sB (b : Nat) : Int32 := (nI b).toInt8.toInt32
theorem sB_t : ∀ b, b < 256 → ((sB b = 32 ↔ b = 32) ∧ (sB b = 10 ↔ b = 10) ∧ (sB b = 59 ↔ b = 59) ∧ (sB b < 97 ↔ b < 97 ∨ 128 ≤ b) ∧ (122 < sB b ↔ 122 < b ∧ b < 128) ∧ (sB b < 48 ↔ b < 48 ∨ 128 ≤ b) ∧ (57 < sB b ↔ 57 < b ∧ b < 128)) := by decide +kernel
theorem q_sp_y {b : Nat} (h : q_sp b = true) : b = 32 ∨ b = 10 := by simpa [q_sp] using h
theorem q_sp_n {b : Nat} (h : ¬ q_sp b = true) : b ≠ 32 ∧ b ≠ 10 := by simpa [q_sp] using h
theorem q_lt_y {b : Nat} (h : q_lt b = true) : 97 ≤ b ∧ b ≤ 122 := by simpa [q_lt] using h
theorem q_lt_n {b : Nat} (h : ¬ q_lt b = true) : b < 97 ∨ 122 < b := by
  have : ¬ (97 ≤ b ∧ b ≤ 122) := fun q => h (by simp [q_lt, q.1, q.2])
  omega
theorem q_fg_y {b : Nat} (h : q_fg b = true) : 48 ≤ b ∧ b ≤ 57 := by simpa [q_fg] using h
theorem q_fg_n {b : Nat} (h : ¬ q_fg b = true) : b < 48 ∨ 57 < b := by
  have : ¬ (48 ≤ b ∧ b ≤ 57) := fun q => h (by simp [q_fg, q.1, q.2])
  omega
theorem X6_bet_y {N : Nat} {A : hP} {b : Nat} (hb : b < 256) (h : q_sp b = true) : f_X6_isBetween N A (sB b) = some (1, A) := by
  obtain ⟨e1, e2, -⟩ := sB_t b hb
  rcases q_sp_y h with q | q
  · simp [f_X6_isBetween, f_X6_isBetween_0, f_X6_isBetween_12, f_X6_isBetween_17, e1.mpr q]
  · by_cases q2 : sB b = 32
    · simp [f_X6_isBetween, f_X6_isBetween_0, f_X6_isBetween_12, f_X6_isBetween_17, q2]
    · simp [f_X6_isBetween, f_X6_isBetween_0, f_X6_isBetween_12, f_X6_isBetween_17, q2, e2.mpr q]
theorem X6_bet_n {N : Nat} {A : hP} {b : Nat} (hb : b < 256) (h : ¬ q_sp b = true) : f_X6_isBetween N A (sB b) = some (0, A) := by
  obtain ⟨e1, e2, -⟩ := sB_t b hb
  have h1 := q_sp_n h
  have q1 : ¬ sB b = 32 := fun q => h1.1 (e1.mp q)
  have q2 : ¬ sB b = 10 := fun q => h1.2 (e2.mp q)
  simp [f_X6_isBetween, f_X6_isBetween_0, f_X6_isBetween_17, q1, q2]
theorem X6_let_y {N : Nat} {A : hP} {b : Nat} (hb : b < 256) (h : q_lt b = true) : f_X6_isLetter N A (sB b) = some (1, A) := by
  obtain ⟨-, -, -, e1, e2, -⟩ := sB_t b hb
  have h1 := q_lt_y h
  have q1 : ¬ sB b < 97 := fun q => by have := e1.mp q; omega
  have q2 : ¬ 122 < sB b := fun q => by have := e2.mp q; omega
  simp only [f_X6_isLetter, f_X6_isLetter_0, f_X6_isLetter_17, q1, q2, or_true, gI_0, gI_2, gI_4, gI_9, gI_15, gI_21, gI_49, gP_0, gP_2, gP_4, gP_9, gP_15, gP_21, gP_49, gR_0, gR_2, gR_4, gR_9, gR_15, gR_21, gR_49, gL_53, gL_54, oPz_0, oPz_1, Option.bind_some, c10, c01, cm1, c00, if_true, if_false, ne_eq, not_true_eq_false, not_false_eq_true]
theorem X6_let_n {N : Nat} {A : hP} {b : Nat} (hb : b < 256) (h : ¬ q_lt b = true) : f_X6_isLetter N A (sB b) = some (0, A) := by
  obtain ⟨-, -, -, e1, e2, -⟩ := sB_t b hb
  have h1 := q_lt_n h
  by_cases q1 : sB b < 97
  · simp only [f_X6_isLetter, f_X6_isLetter_0, f_X6_isLetter_16, f_X6_isLetter_17, q1, true_or, gI_0, gI_2, gI_4, gI_9, gI_15, gI_21, gI_49, gP_0, gP_2, gP_4, gP_9, gP_15, gP_21, gP_49, gR_0, gR_2, gR_4, gR_9, gR_15, gR_21, gR_49, gL_53, gL_54, oPz_0, oPz_1, Option.bind_some, c10, c01, cm1, c00, if_true, if_false, ne_eq, not_true_eq_false, not_false_eq_true]
  · have q2 : 122 < sB b := e2.mpr (by
      have : ¬ (b < 97 ∨ 128 ≤ b) := fun q => q1 (e1.mpr q)
      omega)
    simp only [f_X6_isLetter, f_X6_isLetter_0, f_X6_isLetter_16, f_X6_isLetter_17, q1, q2, true_or, gI_0, gI_2, gI_4, gI_9, gI_15, gI_21, gI_49, gP_0, gP_2, gP_4, gP_9, gP_15, gP_21, gP_49, gR_0, gR_2, gR_4, gR_9, gR_15, gR_21, gR_49, gL_53, gL_54, oPz_0, oPz_1, Option.bind_some, c10, c01, cm1, c00, if_true, if_false, ne_eq, not_true_eq_false, not_false_eq_true]
theorem X6_fig_y {N : Nat} {A : hP} {b : Nat} (hb : b < 256) (h : q_fg b = true) : f_X6_isFigure N A (sB b) = some (1, A) := by
  obtain ⟨-, -, -, -, -, e1, e2⟩ := sB_t b hb
  have h1 := q_fg_y h
  have q1 : ¬ sB b < 48 := fun q => by have := e1.mp q; omega
  have q2 : ¬ 57 < sB b := fun q => by have := e2.mp q; omega
  simp only [f_X6_isFigure, f_X6_isFigure_0, f_X6_isFigure_17, q1, q2, or_true, gI_0, gI_2, gI_4, gI_9, gI_15, gI_21, gI_49, gP_0, gP_2, gP_4, gP_9, gP_15, gP_21, gP_49, gR_0, gR_2, gR_4, gR_9, gR_15, gR_21, gR_49, gL_53, gL_54, oPz_0, oPz_1, Option.bind_some, c10, c01, cm1, c00, if_true, if_false, ne_eq, not_true_eq_false, not_false_eq_true]
theorem X6_fig_n {N : Nat} {A : hP} {b : Nat} (hb : b < 256) (h : ¬ q_fg b = true) : f_X6_isFigure N A (sB b) = some (0, A) := by
  obtain ⟨-, -, -, -, -, e1, e2⟩ := sB_t b hb
  have h1 := q_fg_n h
  by_cases q1 : sB b < 48
  · simp only [f_X6_isFigure, f_X6_isFigure_0, f_X6_isFigure_16, f_X6_isFigure_17, q1, true_or, gI_0, gI_2, gI_4, gI_9, gI_15, gI_21, gI_49, gP_0, gP_2, gP_4, gP_9, gP_15, gP_21, gP_49, gR_0, gR_2, gR_4, gR_9, gR_15, gR_21, gR_49, gL_53, gL_54, oPz_0, oPz_1, Option.bind_some, c10, c01, cm1, c00, if_true, if_false, ne_eq, not_true_eq_false, not_false_eq_true]
  · have q2 : 57 < sB b := e2.mpr (by
      have : ¬ (b < 48 ∨ 128 ≤ b) := fun q => q1 (e1.mpr q)
      omega)
    simp only [f_X6_isFigure, f_X6_isFigure_0, f_X6_isFigure_16, f_X6_isFigure_17, q1, q2, true_or, gI_0, gI_2, gI_4, gI_9, gI_15, gI_21, gI_49, gP_0, gP_2, gP_4, gP_9, gP_15, gP_21, gP_49, gR_0, gR_2, gR_4, gR_9, gR_15, gR_21, gR_49, gL_53, gL_54, oPz_0, oPz_1, Option.bind_some, c10, c01, cm1, c00, if_true, if_false, ne_eq, not_true_eq_false, not_false_eq_true]
/-! the class's tape: its bytes; its token; what a call of it may change -/
def q_CB (n : Nat) (B : Nat → Nat) (F : Nat → Nat → Int32) : Prop := n ≤ 400 ∧ F 2 1 = nI n ∧ ∀ i, i < n → B i < 256 ∧ F 3 i = sB (B i)
def q_CT (n : Nat) (B : Nat → Nat) (F : Nat → Nat → Int32) (p : Nat) : Prop := F 2 4 = nI (q_E B n p) ∧ F 2 5 = nI (q_S B n p) ∧ F 2 6 = nI (q_K B n p)
def q_C2 (F G : Nat → Nat → Int32) : Prop := (∀ q, q ≠ 2 → G q = F q) ∧ G 2 1 = F 2 1
theorem q_C2.refl (F : Nat → Nat → Int32) : q_C2 F F := ⟨fun _ _ => rfl, rfl⟩
theorem q_C2.trans {F G H : Nat → Nat → Int32} (h : q_C2 F G) (k : q_C2 G H) : q_C2 F H := ⟨fun q hq => (k.1 q hq).trans (h.1 q hq), k.2.trans h.2⟩
theorem q_C2.up {F : Nat → Nat → Int32} {k : Nat} {v : Int32} (hk : k ≠ 1) : q_C2 F (up2 F 2 k v) := ⟨fun q hq => up2_ne hq, up2_o (fun e => hk e.symm)⟩
theorem q_CB.mv {n : Nat} {B : Nat → Nat} {F G : Nat → Nat → Int32} (h : q_CB n B F) (e : q_C2 F G) : q_CB n B G := by
  obtain ⟨h1, h2, h3⟩ := h
  exact ⟨h1, by rw [e.2]; exact h2, fun i hi => by rw [e.1 3 (by decide)]; exact h3 i hi⟩
theorem up2_id {F : Nat → Nat → Int32} {p k : Nat} {v : Int32} (h : F p k = v) : up2 F p k v = F := by
  funext q j
  by_cases hq : q = p
  · subst hq
    by_cases hj : j = k
    · subst hj; rw [up2_s, h]
    · rw [up2_o hj]
  · rw [up2_ne hq]
theorem up2_up2 {F : Nat → Nat → Int32} {p k : Nat} {v w : Int32} : up2 (up2 F p k v) p k w = up2 F p k w := by
  funext q j
  by_cases hq : q = p
  · subst hq
    by_cases hj : j = k
    · subst hj; rw [up2_s, up2_s]
    · rw [up2_o hj, up2_o hj, up2_o hj]
  · rw [up2_ne hq, up2_ne hq, up2_ne hq]
section CL
variable {N m n : Nat} {B : Nat → Nat} {L : Nat → Nat → Option Nat} {T : Nat → Nat}
theorem X6_sp : ∀ (k M p : Nat) (F : Nat → Nat → Int32), q_CB n B F → F 2 4 = nI p → p ≤ n → n ≤ p + k → k < M → f_X6_advance_0 N M (Hp m F L T) (some 2) = f_X6_advance_39 N (Hp m (up2 F 2 4 (nI (q_run (fun i => q_sp (B i)) n k p))) L T) (some 2) := by
  intro k
  induction k with
  | zero =>
    intro M p F cb h4 hp hk hM
    obtain ⟨M, rfl⟩ : ∃ j, M = j + 1 := ⟨M - 1, by omega⟩
    have c := cb.1
    have e : nI n ≤ nI p := nI_le (by omega) (by omega)
    rw [f_X6_advance_0, q_run, up2_id h4]
    simp only [h4, cb.2.1, e, gI_0, gI_2, gI_4, gI_9, gI_15, gI_21, gI_49, gP_0, gP_2, gP_4, gP_9, gP_15, gP_21, gP_49, gR_0, gR_2, gR_4, gR_9, gR_15, gR_21, gR_49, gL_53, gL_54, oPz_0, oPz_1, Option.bind_some, c10, c01, cm1, c00, if_true, if_false, ne_eq, not_true_eq_false, not_false_eq_true]
  | succ k ih =>
    intro M p F cb h4 hp hk hM
    obtain ⟨M, rfl⟩ : ∃ j, M = j + 1 := ⟨M - 1, by omega⟩
    have c := cb.1
    rw [f_X6_advance_0, q_run]
    by_cases hpn : p = n
    · have e : nI n ≤ nI p := nI_le (by omega) (by omega)
      rw [if_neg (fun q => by omega), up2_id h4]
      simp only [h4, cb.2.1, e, gI_0, gI_2, gI_4, gI_9, gI_15, gI_21, gI_49, gP_0, gP_2, gP_4, gP_9, gP_15, gP_21, gP_49, gR_0, gR_2, gR_4, gR_9, gR_15, gR_21, gR_49, gL_53, gL_54, oPz_0, oPz_1, Option.bind_some, c10, c01, cm1, c00, if_true, if_false, ne_eq, not_true_eq_false, not_false_eq_true]
    · have e : ¬ nI n ≤ nI p := nI_ge (by omega) (by omega)
      obtain ⟨b1, b2⟩ := cb.2.2 p (by omega)
      by_cases hq : q_sp (B p) = true
      · rw [if_pos ⟨by omega, hq⟩]
        have r := ih M (p + 1) (up2 F 2 4 (nI (p + 1))) (cb.mv (q_C2.up (by decide))) (up2_s _ _ _ _) (by omega) (by omega) (by omega)
        rw [up2_up2] at r
        simp only [h4, cb.2.1, e, (gN_3 (show p < 400 by omega)).1, b2, X6_bet_y b1 hq, nI_1, gI_0, gI_2, gI_4, gI_9, gI_15, gI_21, gI_49, gP_0, gP_2, gP_4, gP_9, gP_15, gP_21, gP_49, gR_0, gR_2, gR_4, gR_9, gR_15, gR_21, gR_49, gL_53, gL_54, oPz_0, oPz_1, Option.bind_some, c10, c01, cm1, c00, if_true, if_false, ne_eq, not_true_eq_false, not_false_eq_true]
        exact r
      · rw [if_neg (fun q => hq q.2), up2_id h4]
        simp only [h4, cb.2.1, e, (gN_3 (show p < 400 by omega)).1, b2, X6_bet_n b1 hq, gI_0, gI_2, gI_4, gI_9, gI_15, gI_21, gI_49, gP_0, gP_2, gP_4, gP_9, gP_15, gP_21, gP_49, gR_0, gR_2, gR_4, gR_9, gR_15, gR_21, gR_49, gL_53, gL_54, oPz_0, oPz_1, Option.bind_some, c10, c01, cm1, c00, if_true, if_false, ne_eq, not_true_eq_false, not_false_eq_true]
theorem X6_lt : ∀ (k M p : Nat) (F : Nat → Nat → Int32), q_CB n B F → F 2 4 = nI p → p ≤ n → n ≤ p + k → k < M → f_X6_advance_81 N M (Hp m F L T) (some 2) = f_X6_advance_120 N (Hp m (up2 F 2 4 (nI (q_run (fun i => q_lt (B i)) n k p))) L T) (some 2) := by
  intro k
  induction k with
  | zero =>
    intro M p F cb h4 hp hk hM
    obtain ⟨M, rfl⟩ : ∃ j, M = j + 1 := ⟨M - 1, by omega⟩
    have c := cb.1
    have e : nI n ≤ nI p := nI_le (by omega) (by omega)
    rw [f_X6_advance_81, q_run, up2_id h4]
    simp only [h4, cb.2.1, e, gI_0, gI_2, gI_4, gI_9, gI_15, gI_21, gI_49, gP_0, gP_2, gP_4, gP_9, gP_15, gP_21, gP_49, gR_0, gR_2, gR_4, gR_9, gR_15, gR_21, gR_49, gL_53, gL_54, oPz_0, oPz_1, Option.bind_some, c10, c01, cm1, c00, if_true, if_false, ne_eq, not_true_eq_false, not_false_eq_true]
  | succ k ih =>
    intro M p F cb h4 hp hk hM
    obtain ⟨M, rfl⟩ : ∃ j, M = j + 1 := ⟨M - 1, by omega⟩
    have c := cb.1
    rw [f_X6_advance_81, q_run]
    by_cases hpn : p = n
    · have e : nI n ≤ nI p := nI_le (by omega) (by omega)
      rw [if_neg (fun q => by omega), up2_id h4]
      simp only [h4, cb.2.1, e, gI_0, gI_2, gI_4, gI_9, gI_15, gI_21, gI_49, gP_0, gP_2, gP_4, gP_9, gP_15, gP_21, gP_49, gR_0, gR_2, gR_4, gR_9, gR_15, gR_21, gR_49, gL_53, gL_54, oPz_0, oPz_1, Option.bind_some, c10, c01, cm1, c00, if_true, if_false, ne_eq, not_true_eq_false, not_false_eq_true]
    · have e : ¬ nI n ≤ nI p := nI_ge (by omega) (by omega)
      obtain ⟨b1, b2⟩ := cb.2.2 p (by omega)
      by_cases hq : q_lt (B p) = true
      · rw [if_pos ⟨by omega, hq⟩]
        have r := ih M (p + 1) (up2 F 2 4 (nI (p + 1))) (cb.mv (q_C2.up (by decide))) (up2_s _ _ _ _) (by omega) (by omega) (by omega)
        rw [up2_up2] at r
        simp only [h4, cb.2.1, e, (gN_3 (show p < 400 by omega)).1, b2, X6_let_y b1 hq, nI_1, gI_0, gI_2, gI_4, gI_9, gI_15, gI_21, gI_49, gP_0, gP_2, gP_4, gP_9, gP_15, gP_21, gP_49, gR_0, gR_2, gR_4, gR_9, gR_15, gR_21, gR_49, gL_53, gL_54, oPz_0, oPz_1, Option.bind_some, c10, c01, cm1, c00, if_true, if_false, ne_eq, not_true_eq_false, not_false_eq_true]
        exact r
      · rw [if_neg (fun q => hq q.2), up2_id h4]
        simp only [h4, cb.2.1, e, (gN_3 (show p < 400 by omega)).1, b2, X6_let_n b1 hq, gI_0, gI_2, gI_4, gI_9, gI_15, gI_21, gI_49, gP_0, gP_2, gP_4, gP_9, gP_15, gP_21, gP_49, gR_0, gR_2, gR_4, gR_9, gR_15, gR_21, gR_49, gL_53, gL_54, oPz_0, oPz_1, Option.bind_some, c10, c01, cm1, c00, if_true, if_false, ne_eq, not_true_eq_false, not_false_eq_true]
theorem X6_fg : ∀ (k M p : Nat) (F : Nat → Nat → Int32), q_CB n B F → F 2 4 = nI p → p ≤ n → n ≤ p + k → k < M → f_X6_advance_143 N M (Hp m F L T) (some 2) = f_X6_advance_182 N (Hp m (up2 F 2 4 (nI (q_run (fun i => q_fg (B i)) n k p))) L T) (some 2) := by
  intro k
  induction k with
  | zero =>
    intro M p F cb h4 hp hk hM
    obtain ⟨M, rfl⟩ : ∃ j, M = j + 1 := ⟨M - 1, by omega⟩
    have c := cb.1
    have e : nI n ≤ nI p := nI_le (by omega) (by omega)
    rw [f_X6_advance_143, q_run, up2_id h4]
    simp only [h4, cb.2.1, e, gI_0, gI_2, gI_4, gI_9, gI_15, gI_21, gI_49, gP_0, gP_2, gP_4, gP_9, gP_15, gP_21, gP_49, gR_0, gR_2, gR_4, gR_9, gR_15, gR_21, gR_49, gL_53, gL_54, oPz_0, oPz_1, Option.bind_some, c10, c01, cm1, c00, if_true, if_false, ne_eq, not_true_eq_false, not_false_eq_true]
  | succ k ih =>
    intro M p F cb h4 hp hk hM
    obtain ⟨M, rfl⟩ : ∃ j, M = j + 1 := ⟨M - 1, by omega⟩
    have c := cb.1
    rw [f_X6_advance_143, q_run]
    by_cases hpn : p = n
    · have e : nI n ≤ nI p := nI_le (by omega) (by omega)
      rw [if_neg (fun q => by omega), up2_id h4]
      simp only [h4, cb.2.1, e, gI_0, gI_2, gI_4, gI_9, gI_15, gI_21, gI_49, gP_0, gP_2, gP_4, gP_9, gP_15, gP_21, gP_49, gR_0, gR_2, gR_4, gR_9, gR_15, gR_21, gR_49, gL_53, gL_54, oPz_0, oPz_1, Option.bind_some, c10, c01, cm1, c00, if_true, if_false, ne_eq, not_true_eq_false, not_false_eq_true]
    · have e : ¬ nI n ≤ nI p := nI_ge (by omega) (by omega)
      obtain ⟨b1, b2⟩ := cb.2.2 p (by omega)
      by_cases hq : q_fg (B p) = true
      · rw [if_pos ⟨by omega, hq⟩]
        have r := ih M (p + 1) (up2 F 2 4 (nI (p + 1))) (cb.mv (q_C2.up (by decide))) (up2_s _ _ _ _) (by omega) (by omega) (by omega)
        rw [up2_up2] at r
        simp only [h4, cb.2.1, e, (gN_3 (show p < 400 by omega)).1, b2, X6_fig_y b1 hq, nI_1, gI_0, gI_2, gI_4, gI_9, gI_15, gI_21, gI_49, gP_0, gP_2, gP_4, gP_9, gP_15, gP_21, gP_49, gR_0, gR_2, gR_4, gR_9, gR_15, gR_21, gR_49, gL_53, gL_54, oPz_0, oPz_1, Option.bind_some, c10, c01, cm1, c00, if_true, if_false, ne_eq, not_true_eq_false, not_false_eq_true]
        exact r
      · rw [if_neg (fun q => hq q.2), up2_id h4]
        simp only [h4, cb.2.1, e, (gN_3 (show p < 400 by omega)).1, b2, X6_fig_n b1 hq, gI_0, gI_2, gI_4, gI_9, gI_15, gI_21, gI_49, gP_0, gP_2, gP_4, gP_9, gP_15, gP_21, gP_49, gR_0, gR_2, gR_4, gR_9, gR_15, gR_21, gR_49, gL_53, gL_54, oPz_0, oPz_1, Option.bind_some, c10, c01, cm1, c00, if_true, if_false, ne_eq, not_true_eq_false, not_false_eq_true]
/-- advance, from where it stands -/
theorem X6_adv {F : Nat → Nat → Int32} {p : Nat} (hN : 5000 ≤ N) (cb : q_CB n B F) (h4 : F 2 4 = nI p) (hp : p ≤ n) : ∃ G, f_X6_advance N (Hp m F L T) (some 2) = some ((), Hp m G L T) ∧ q_CT n B G p ∧ q_C2 F G ∧ ∀ k, k ≠ 4 → k ≠ 5 → k ≠ 6 → G 2 k = F 2 k := by
  have c := cb.1
  have hs : q_S B n p ≤ n := q_S_b hp
  unfold f_X6_advance
  rw [X6_sp n N p F cb h4 hp (by omega) (by omega)]
  unfold q_CT q_E q_K
  rw [show q_run (fun i => q_sp (B i)) n n p = q_S B n p from rfl]
  generalize q_S B n p = s at *
  have c1 : q_C2 F (up2 (up2 F 2 4 (nI s)) 2 5 (nI s)) := (q_C2.up (by decide)).trans (q_C2.up (by decide))
  have cb1 := cb.mv c1
  have a4 : up2 (up2 F 2 4 (nI s)) 2 5 (nI s) 2 4 = nI s := by simp (disch := omega) only [up2_ne, up2_o, up2_s]
  have a5 : up2 (up2 F 2 4 (nI s)) 2 5 (nI s) 2 5 = nI s := by simp (disch := omega) only [up2_ne, up2_o, up2_s]
  have ak : ∀ k, k ≠ 4 → k ≠ 5 → up2 (up2 F 2 4 (nI s)) 2 5 (nI s) 2 k = F 2 k := fun k h1 h2 => by simp (disch := omega) only [up2_ne, up2_o, up2_s]
  have ae : f_X6_advance_39 N (Hp m (up2 F 2 4 (nI s)) L T) (some 2) = f_X6_advance_39 N (Hp m (up2 F 2 4 (nI s)) L T) (some 2) := rfl
  conv at ae => rhs; rw [f_X6_advance_39]
  simp only [up2_s, gI_0, gI_2, gI_4, gI_9, gI_15, gI_21, gI_49, gP_0, gP_2, gP_4, gP_9, gP_15, gP_21, gP_49, gR_0, gR_2, gR_4, gR_9, gR_15, gR_21, gR_49, gL_53, gL_54, oPz_0, oPz_1, Option.bind_some, c10, c01, cm1, c00, if_true, if_false, ne_eq, not_true_eq_false, not_false_eq_true] at ae
  rw [ae]
  generalize up2 (up2 F 2 4 (nI s)) 2 5 (nI s) = F1 at *
  clear ae
  unfold q_Es q_Ks
  by_cases h0 : n ≤ s
  · have e : ¬ nI s < nI n := nI_nlt h0 (by omega)
    rw [if_pos h0, if_pos h0]
    refine ⟨up2 F1 2 6 0, ?_, ⟨?_, ?_, ?_⟩, c1.trans (q_C2.up (by decide)), fun k k1 k2 k3 => ?_⟩
    · simp only [a4, cb1.2.1, e, f_X6_advance_240, gI_0, gI_2, gI_4, gI_9, gI_15, gI_21, gI_49, gP_0, gP_2, gP_4, gP_9, gP_15, gP_21, gP_49, gR_0, gR_2, gR_4, gR_9, gR_15, gR_21, gR_49, gL_53, gL_54, oPz_0, oPz_1, Option.bind_some, c10, c01, cm1, c00, if_true, if_false, ne_eq, not_true_eq_false, not_false_eq_true]
    · simp (disch := omega) only [up2_ne, up2_o, up2_s]; exact a4
    · simp (disch := omega) only [up2_ne, up2_o, up2_s]; exact a5
    · rw [up2_s]; rfl
    · rw [up2_o k3]; exact ak k k1 k2
  · have e : nI s < nI n := nI_lt (by omega) (by omega)
    obtain ⟨b1, b2⟩ := cb1.2.2 s (by omega)
    rw [if_neg h0, if_neg h0]
    by_cases hl : q_lt (B s) = true
    · rw [if_pos hl, if_pos hl]
      refine ⟨up2 (up2 F1 2 4 (nI (q_El B n s))) 2 6 1, ?_, ⟨?_, ?_, ?_⟩, c1.trans ((q_C2.up (by decide)).trans (q_C2.up (by decide))), fun k k1 k2 k3 => ?_⟩
      · simp only [a4, cb1.2.1, e, (gN_3 (show s < 400 by omega)).1, b2, X6_let_y b1 hl, X6_lt n N s F1 cb1 a4 (by omega) (by omega) (by omega), f_X6_advance_120, f_X6_advance_240, gI_0, gI_2, gI_4, gI_9, gI_15, gI_21, gI_49, gP_0, gP_2, gP_4, gP_9, gP_15, gP_21, gP_49, gR_0, gR_2, gR_4, gR_9, gR_15, gR_21, gR_49, gL_53, gL_54, oPz_0, oPz_1, Option.bind_some, c10, c01, cm1, c00, if_true, if_false, ne_eq, not_true_eq_false, not_false_eq_true]
        rfl
      · simp (disch := omega) only [up2_ne, up2_o, up2_s]
      · simp (disch := omega) only [up2_ne, up2_o, up2_s]; exact a5
      · rw [up2_s]; rfl
      · rw [up2_o k3, up2_o k1]; exact ak k k1 k2
    · rw [if_neg hl, if_neg hl]
      by_cases hf : q_fg (B s) = true
      · rw [if_pos hf, if_pos hf]
        have eb := q_run_b (q := fun i => q_fg (B i)) (n := n) n s hs
        have e5 : up2 F1 2 4 (nI (q_Ef B n s)) 2 5 = nI s := by simp (disch := omega) only [up2_ne, up2_o, up2_s]; exact a5
        have r := X6_fg (N := N) (m := m) (L := L) (T := T) n N s F1 cb1 a4 (by omega) (by omega) (by omega)
        rw [show q_run (fun i => q_fg (B i)) n n s = q_Ef B n s from rfl] at r eb
        refine ⟨up2 (up2 F1 2 4 (nI (q_Ef B n s))) 2 6 (nI (if q_Ef B n s - s ≤ 3 then 2 else 4)), ?_, ⟨?_, ?_, ?_⟩, c1.trans ((q_C2.up (by decide)).trans (q_C2.up (by decide))), fun k k1 k2 k3 => ?_⟩
        · simp only [a4, cb1.2.1, e, (gN_3 (show s < 400 by omega)).1, b2, X6_let_n b1 hl, X6_fig_y b1 hf, r, f_X6_advance_182, up2_s, e5, pk_sub eb.1, f_X6_advance_201, f_X6_advance_240, gI_0, gI_2, gI_4, gI_9, gI_15, gI_21, gI_49, gP_0, gP_2, gP_4, gP_9, gP_15, gP_21, gP_49, gR_0, gR_2, gR_4, gR_9, gR_15, gR_21, gR_49, gL_53, gL_54, oPz_0, oPz_1, Option.bind_some, c10, c01, cm1, c00, if_true, if_false, ne_eq, not_true_eq_false, not_false_eq_true]
          by_cases h3 : q_Ef B n s - s ≤ 3
          · have e3 : ¬ (3 : Int32) < nI (q_Ef B n s - s) := nI_nlt (a := 3) (by omega) (by omega)
            rw [if_neg e3, if_pos h3]; rfl
          · have e3 : (3 : Int32) < nI (q_Ef B n s - s) := nI_lt (a := 3) (by omega) (by omega)
            rw [if_pos e3, if_neg h3]; rfl
        · simp (disch := omega) only [up2_ne, up2_o, up2_s]
        · simp (disch := omega) only [up2_ne, up2_o, up2_s]; exact a5
        · rw [up2_s]
        · rw [up2_o k3, up2_o k1]; exact ak k k1 k2
      · rw [if_neg hf, if_neg hf]
        have e59 := (sB_t (B s) b1).2.2.1
        refine ⟨up2 (up2 F1 2 6 (nI (if B s = 59 then 3 else 4))) 2 4 (nI (s + 1)), ?_, ⟨?_, ?_, ?_⟩, c1.trans ((q_C2.up (by decide)).trans (q_C2.up (by decide))), fun k k1 k2 k3 => ?_⟩
        · have e4 : ∀ v, up2 F1 2 6 v 2 4 = nI s := fun v => by simp (disch := omega) only [up2_ne, up2_o, up2_s]; exact a4
          simp only [a4, cb1.2.1, e, (gN_3 (show s < 400 by omega)).1, b2, X6_let_n b1 hl, X6_fig_n b1 hf, f_X6_advance_227, e4, nI_1, f_X6_advance_240, gI_0, gI_2, gI_4, gI_9, gI_15, gI_21, gI_49, gP_0, gP_2, gP_4, gP_9, gP_15, gP_21, gP_49, gR_0, gR_2, gR_4, gR_9, gR_15, gR_21, gR_49, gL_53, gL_54, oPz_0, oPz_1, Option.bind_some, c10, c01, cm1, c00, if_true, if_false, ne_eq, not_true_eq_false, not_false_eq_true]
          by_cases h3 : B s = 59
          · rw [if_pos (e59.mpr h3), if_pos h3]; rfl
          · rw [if_neg (fun q => h3 (e59.mp q)), if_neg h3]; rfl
        · simp (disch := omega) only [up2_ne, up2_o, up2_s]
        · simp (disch := omega) only [up2_ne, up2_o, up2_s]; exact a5
        · simp (disch := omega) only [up2_ne, up2_o, up2_s]
        · rw [up2_o k1, up2_o k3]; exact ak k k1 k2
end CL
