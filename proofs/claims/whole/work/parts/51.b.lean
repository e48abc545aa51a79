/-! PORT, the reference's tokens -/
def q_RB (n : Nat) (B : Nat → Nat) (F : Nat → Nat → Int32) : Prop := n ≤ 400 ∧ F 49 10 = nI n ∧ ∀ i, i < n → B i < 256 ∧ F 55 i = nI (B i)
def q_rk (k : Nat) : Nat := if k = 4 then 0 else k + 1
def q_RT (n : Nat) (B : Nat → Nat) (F : Nat → Nat → Int32) (p : Nat) : Prop := F 49 11 = nI (q_E B n p) ∧ F 49 12 = nI (q_rk (q_K B n p)) ∧ F 49 13 = nI (q_S B n p) ∧ F 49 14 = nI (q_E B n p)
/-- only the reference's tokens have changed -/
def q_R2 (F G : Nat → Nat → Int32) : Prop := (∀ q, q ≠ 49 → G q = F q) ∧ ∀ k, (k < 11 ∨ 14 < k) → G 49 k = F 49 k
theorem q_R2.refl (F : Nat → Nat → Int32) : q_R2 F F := ⟨fun _ _ => rfl, fun _ _ => rfl⟩
theorem q_R2.trans {F G H : Nat → Nat → Int32} (h : q_R2 F G) (k : q_R2 G H) : q_R2 F H := ⟨fun q hq => (k.1 q hq).trans (h.1 q hq), fun j hj => (k.2 j hj).trans (h.2 j hj)⟩
theorem q_R2.up {F : Nat → Nat → Int32} {k : Nat} {v : Int32} (h1 : 11 ≤ k) (h2 : k ≤ 14) : q_R2 F (up2 F 49 k v) := ⟨fun q hq => up2_ne hq, fun j hj => up2_o (by omega)⟩
theorem q_RB.mv {n : Nat} {B : Nat → Nat} {F G : Nat → Nat → Int32} (h : q_RB n B F) (e1 : G 49 10 = F 49 10) (e2 : G 55 = F 55) : q_RB n B G := by
  obtain ⟨h1, h2, h3⟩ := h
  exact ⟨h1, by rw [e1]; exact h2, fun i hi => by rw [e2]; exact h3 i hi⟩
theorem q_RB.mv2 {n : Nat} {B : Nat → Nat} {F G : Nat → Nat → Int32} (h : q_RB n B F) (e : q_R2 F G) : q_RB n B G := h.mv (e.2 10 (by decide)) (e.1 55 (by decide))
theorem nB_t : ∀ b, b < 256 → ((nI b = 32 ↔ b = 32) ∧ (nI b = 10 ↔ b = 10) ∧ (nI b = 59 ↔ b = 59) ∧ (nI b < 97 ↔ b < 97) ∧ (122 < nI b ↔ 122 < b) ∧ (nI b < 48 ↔ b < 48) ∧ (57 < nI b ↔ 57 < b) ∧ ¬ nI b = -1000000) := by decide +kernel
theorem M_let_y {N : Nat} {A : hP} {b : Nat} (hb : b < 256) (h : q_lt b = true) : f_X12_isLetter N A (nI b) = some (1, A) := by
  obtain ⟨-, -, -, e1, e2, -⟩ := nB_t b hb
  have h1 := q_lt_y h
  have q1 : ¬ nI b < 97 := fun q => by have := e1.mp q; omega
  have q2 : ¬ 122 < nI b := fun q => by have := e2.mp q; omega
  simp only [f_X12_isLetter, f_X12_isLetter_0, f_X12_isLetter_17, q1, q2, or_true, gI_0, gI_2, gI_4, gI_9, gI_15, gI_21, gI_49, gP_0, gP_2, gP_4, gP_9, gP_15, gP_21, gP_49, gR_0, gR_2, gR_4, gR_9, gR_15, gR_21, gR_49, gL_53, gL_54, oPz_0, oPz_1, Option.bind_some, c10, c01, cm1, c00, if_true, if_false, ne_eq, not_true_eq_false, not_false_eq_true]
theorem M_let_n {N : Nat} {A : hP} {b : Nat} (hb : b < 256) (h : ¬ q_lt b = true) : f_X12_isLetter N A (nI b) = some (0, A) := by
  obtain ⟨-, -, -, e1, e2, -⟩ := nB_t b hb
  have h1 := q_lt_n h
  by_cases q1 : nI b < 97
  · simp only [f_X12_isLetter, f_X12_isLetter_0, f_X12_isLetter_16, f_X12_isLetter_17, q1, true_or, gI_0, gI_2, gI_4, gI_9, gI_15, gI_21, gI_49, gP_0, gP_2, gP_4, gP_9, gP_15, gP_21, gP_49, gR_0, gR_2, gR_4, gR_9, gR_15, gR_21, gR_49, gL_53, gL_54, oPz_0, oPz_1, Option.bind_some, c10, c01, cm1, c00, if_true, if_false, ne_eq, not_true_eq_false, not_false_eq_true]
  · have q2 : 122 < nI b := e2.mpr (by
      have : ¬ b < 97 := fun q => q1 (e1.mpr q)
      omega)
    simp only [f_X12_isLetter, f_X12_isLetter_0, f_X12_isLetter_16, f_X12_isLetter_17, q1, q2, true_or, gI_0, gI_2, gI_4, gI_9, gI_15, gI_21, gI_49, gP_0, gP_2, gP_4, gP_9, gP_15, gP_21, gP_49, gR_0, gR_2, gR_4, gR_9, gR_15, gR_21, gR_49, gL_53, gL_54, oPz_0, oPz_1, Option.bind_some, c10, c01, cm1, c00, if_true, if_false, ne_eq, not_true_eq_false, not_false_eq_true]
theorem M_fig_y {N : Nat} {A : hP} {b : Nat} (hb : b < 256) (h : q_fg b = true) : f_X12_isFigure N A (nI b) = some (1, A) := by
  obtain ⟨-, -, -, -, -, e1, e2, -⟩ := nB_t b hb
  have h1 := q_fg_y h
  have q1 : ¬ nI b < 48 := fun q => by have := e1.mp q; omega
  have q2 : ¬ 57 < nI b := fun q => by have := e2.mp q; omega
  simp only [f_X12_isFigure, f_X12_isFigure_0, f_X12_isFigure_17, q1, q2, or_true, gI_0, gI_2, gI_4, gI_9, gI_15, gI_21, gI_49, gP_0, gP_2, gP_4, gP_9, gP_15, gP_21, gP_49, gR_0, gR_2, gR_4, gR_9, gR_15, gR_21, gR_49, gL_53, gL_54, oPz_0, oPz_1, Option.bind_some, c10, c01, cm1, c00, if_true, if_false, ne_eq, not_true_eq_false, not_false_eq_true]
theorem M_fig_n {N : Nat} {A : hP} {b : Nat} (hb : b < 256) (h : ¬ q_fg b = true) : f_X12_isFigure N A (nI b) = some (0, A) := by
  obtain ⟨-, -, -, -, -, e1, e2, -⟩ := nB_t b hb
  have h1 := q_fg_n h
  by_cases q1 : nI b < 48
  · simp only [f_X12_isFigure, f_X12_isFigure_0, f_X12_isFigure_16, f_X12_isFigure_17, q1, true_or, gI_0, gI_2, gI_4, gI_9, gI_15, gI_21, gI_49, gP_0, gP_2, gP_4, gP_9, gP_15, gP_21, gP_49, gR_0, gR_2, gR_4, gR_9, gR_15, gR_21, gR_49, gL_53, gL_54, oPz_0, oPz_1, Option.bind_some, c10, c01, cm1, c00, if_true, if_false, ne_eq, not_true_eq_false, not_false_eq_true]
  · have q2 : 57 < nI b := e2.mpr (by
      have : ¬ b < 48 := fun q => q1 (e1.mpr q)
      omega)
    simp only [f_X12_isFigure, f_X12_isFigure_0, f_X12_isFigure_16, f_X12_isFigure_17, q1, q2, true_or, gI_0, gI_2, gI_4, gI_9, gI_15, gI_21, gI_49, gP_0, gP_2, gP_4, gP_9, gP_15, gP_21, gP_49, gR_0, gR_2, gR_4, gR_9, gR_15, gR_21, gR_49, gL_53, gL_54, oPz_0, oPz_1, Option.bind_some, c10, c01, cm1, c00, if_true, if_false, ne_eq, not_true_eq_false, not_false_eq_true]
theorem M_let_e {N : Nat} {A : hP} : f_X12_isLetter N A (-1000000) = some (0, A) := by
  have q1 : (-1000000 : Int32) < 97 := by decide
  simp only [f_X12_isLetter, f_X12_isLetter_0, f_X12_isLetter_16, f_X12_isLetter_17, q1, true_or, gI_0, gI_2, gI_4, gI_9, gI_15, gI_21, gI_49, gP_0, gP_2, gP_4, gP_9, gP_15, gP_21, gP_49, gR_0, gR_2, gR_4, gR_9, gR_15, gR_21, gR_49, gL_53, gL_54, oPz_0, oPz_1, Option.bind_some, c10, c01, cm1, c00, if_true, if_false, ne_eq, not_true_eq_false, not_false_eq_true]
theorem M_fig_e {N : Nat} {A : hP} : f_X12_isFigure N A (-1000000) = some (0, A) := by
  have q1 : (-1000000 : Int32) < 48 := by decide
  simp only [f_X12_isFigure, f_X12_isFigure_0, f_X12_isFigure_16, f_X12_isFigure_17, q1, true_or, gI_0, gI_2, gI_4, gI_9, gI_15, gI_21, gI_49, gP_0, gP_2, gP_4, gP_9, gP_15, gP_21, gP_49, gR_0, gR_2, gR_4, gR_9, gR_15, gR_21, gR_49, gL_53, gL_54, oPz_0, oPz_1, Option.bind_some, c10, c01, cm1, c00, if_true, if_false, ne_eq, not_true_eq_false, not_false_eq_true]
/-- what stands behind the bytes between -/
def q_tl (N : Nat) (A : hP) : Option (Unit × hP) := (oI A (some 49) 11 11).bind fun v24 => (oP A (some 49) 11 13 (.int v24)).bind fun A25 => (oI A25 (some 49) 11 11).bind fun v26 => (oCk A25 (some 49) 11).bind fun _ => (f_X12_byteAt N A25 (some 49) v26).bind fun q27 => if q27.1 = (-1000000 : Int32) then ((oP q27.2 (some 49) 11 12 (.int (1 : Int32))).bind fun A32 => f_X12_nextToken_196 N A32 (some 49)) else ((f_X12_isLetter N q27.2 q27.1).bind fun q28 => if q28.1 = (0) then ((f_X12_isFigure N q28.2 q27.1).bind fun q29 => if q29.1 = (0) then ((oI q29.2 (some 49) 11 11).bind fun v30 => (oP q29.2 (some 49) 11 11 (.int (v30 + (1 : Int32)))).bind fun A31 => if q27.1 = (59 : Int32) then (f_X12_nextToken_193 N A31 (some 49) (some 49) (4 : Int32)) else (f_X12_nextToken_193 N A31 (some 49) (some 49) (0 : Int32))) else (f_X12_nextToken_119 N N q29.2 (some 49))) else (f_X12_nextToken_77 N N q28.2 (some 49)))
section RL
variable {N m n : Nat} {B : Nat → Nat} {L : Nat → Nat → Option Nat} {T : Nat → Nat}
theorem M_by {F : Nat → Nat → Int32} {i : Nat} (rb : q_RB n B F) (h : i < n) : f_X12_byteAt N (Hp m F L T) (some 49) (nI i) = some (nI (B i), Hp m F L T) := by
  have c := rb.1
  have e : ¬ nI n ≤ nI i := nI_ge h (by omega)
  simp only [f_X12_byteAt, f_X12_byteAt_0, f_X12_byteAt_19, rb.2.1, e, (gN_55 (show i < 400 by omega)).1, (rb.2.2 i h).2, gI_0, gI_2, gI_4, gI_9, gI_15, gI_21, gI_49, gP_0, gP_2, gP_4, gP_9, gP_15, gP_21, gP_49, gR_0, gR_2, gR_4, gR_9, gR_15, gR_21, gR_49, gL_53, gL_54, oPz_0, oPz_1, Option.bind_some, c10, c01, cm1, c00, if_true, if_false, ne_eq, not_true_eq_false, not_false_eq_true]
theorem M_by_e {F : Nat → Nat → Int32} {i : Nat} (rb : q_RB n B F) (h : i = n) : f_X12_byteAt N (Hp m F L T) (some 49) (nI i) = some (-1000000, Hp m F L T) := by
  have c := rb.1
  have e : nI n ≤ nI i := nI_le (by omega) (by omega)
  simp only [f_X12_byteAt, f_X12_byteAt_0, f_X12_byteAt_19, rb.2.1, e, gI_0, gI_2, gI_4, gI_9, gI_15, gI_21, gI_49, gP_0, gP_2, gP_4, gP_9, gP_15, gP_21, gP_49, gR_0, gR_2, gR_4, gR_9, gR_15, gR_21, gR_49, gL_53, gL_54, oPz_0, oPz_1, Option.bind_some, c10, c01, cm1, c00, if_true, if_false, ne_eq, not_true_eq_false, not_false_eq_true]
theorem M_sp : ∀ (k M p : Nat) (F : Nat → Nat → Int32), q_RB n B F → F 49 11 = nI p → p ≤ n → n ≤ p + k → k < M → f_X12_nextToken_0 N M (Hp m F L T) (some 49) = q_tl N (Hp m (up2 F 49 11 (nI (q_run (fun i => q_sp (B i)) n k p))) L T) := by
  have stop : ∀ (M p : Nat) (F : Nat → Nat → Int32), q_RB n B F → F 49 11 = nI p → p ≤ n → (p = n ∨ p < n ∧ ¬ q_sp (B p) = true) → f_X12_nextToken_0 N (M + 1) (Hp m F L T) (some 49) = q_tl N (Hp m F L T) := by
    intro M p F rb h4 hp h
    rw [f_X12_nextToken_0]
    unfold q_tl
    rcases h with h | ⟨h, hq⟩
    · have e1 : ¬ (-1000000 : Int32) = 32 := by decide
      have e2 : ¬ (-1000000 : Int32) = 10 := by decide
      simp only [h4, M_by_e rb h, e1, e2, gI_0, gI_2, gI_4, gI_9, gI_15, gI_21, gI_49, gP_0, gP_2, gP_4, gP_9, gP_15, gP_21, gP_49, gR_0, gR_2, gR_4, gR_9, gR_15, gR_21, gR_49, gL_53, gL_54, oPz_0, oPz_1, Option.bind_some, c10, c01, cm1, c00, if_true, if_false, ne_eq, not_true_eq_false, not_false_eq_true]
    · obtain ⟨b1, b2, -⟩ := nB_t (B p) (rb.2.2 p h).1
      have hs := q_sp_n hq
      have e1 : ¬ nI (B p) = 32 := fun q => hs.1 (b1.mp q)
      have e2 : ¬ nI (B p) = 10 := fun q => hs.2 (b2.mp q)
      simp only [h4, M_by rb h, e1, e2, gI_0, gI_2, gI_4, gI_9, gI_15, gI_21, gI_49, gP_0, gP_2, gP_4, gP_9, gP_15, gP_21, gP_49, gR_0, gR_2, gR_4, gR_9, gR_15, gR_21, gR_49, gL_53, gL_54, oPz_0, oPz_1, Option.bind_some, c10, c01, cm1, c00, if_true, if_false, ne_eq, not_true_eq_false, not_false_eq_true]
  intro k
  induction k with
  | zero =>
    intro M p F rb h4 hp hk hM
    obtain ⟨M, rfl⟩ : ∃ j, M = j + 1 := ⟨M - 1, by omega⟩
    rw [q_run, up2_id h4]
    exact stop M p F rb h4 hp (Or.inl (by omega))
  | succ k ih =>
    intro M p F rb h4 hp hk hM
    obtain ⟨M, rfl⟩ : ∃ j, M = j + 1 := ⟨M - 1, by omega⟩
    rw [q_run]
    by_cases hq : p < n ∧ q_sp (B p) = true
    · rw [if_pos hq]
      have r := ih M (p + 1) (up2 F 49 11 (nI (p + 1))) (rb.mv2 (q_R2.up (by decide) (by decide))) (up2_s _ _ _ _) (by omega) (by omega) (by omega)
      rw [up2_up2] at r
      rw [f_X12_nextToken_0]
      obtain ⟨b1, b2, -⟩ := nB_t (B p) (rb.2.2 p hq.1).1
      by_cases e1 : nI (B p) = 32
      · simp only [h4, M_by rb hq.1, e1, f_X12_nextToken_26, nI_1, gI_0, gI_2, gI_4, gI_9, gI_15, gI_21, gI_49, gP_0, gP_2, gP_4, gP_9, gP_15, gP_21, gP_49, gR_0, gR_2, gR_4, gR_9, gR_15, gR_21, gR_49, gL_53, gL_54, oPz_0, oPz_1, Option.bind_some, c10, c01, cm1, c00, if_true, if_false, ne_eq, not_true_eq_false, not_false_eq_true]
        exact r
      · have e2 : nI (B p) = 10 := by
          rcases q_sp_y hq.2 with h | h
          · exact absurd (b1.mpr h) e1
          · exact b2.mpr h
        have e3 : ¬ (10 : Int32) = 32 := by decide
        simp only [h4, M_by rb hq.1, e2, e3, f_X12_nextToken_26, nI_1, gI_0, gI_2, gI_4, gI_9, gI_15, gI_21, gI_49, gP_0, gP_2, gP_4, gP_9, gP_15, gP_21, gP_49, gR_0, gR_2, gR_4, gR_9, gR_15, gR_21, gR_49, gL_53, gL_54, oPz_0, oPz_1, Option.bind_some, c10, c01, cm1, c00, if_true, if_false, ne_eq, not_true_eq_false, not_false_eq_true]
        exact r
    · rw [if_neg hq, up2_id h4]
      exact stop M p F rb h4 hp (by
        by_cases h : p < n
        · exact Or.inr ⟨h, fun q => hq ⟨h, q⟩⟩
        · exact Or.inl (by omega))
theorem M_lt : ∀ (k M p : Nat) (F : Nat → Nat → Int32), q_RB n B F → F 49 11 = nI p → p ≤ n → n ≤ p + k → k < M → f_X12_nextToken_77 N M (Hp m F L T) (some 49) = f_X12_nextToken_165 N (Hp m (up2 F 49 11 (nI (q_run (fun i => q_lt (B i)) n k p))) L T) (some 49) (some 49) 2 := by
  have stop : ∀ (M p : Nat) (F : Nat → Nat → Int32), q_RB n B F → F 49 11 = nI p → p ≤ n → (p = n ∨ p < n ∧ ¬ q_lt (B p) = true) → f_X12_nextToken_77 N (M + 1) (Hp m F L T) (some 49) = f_X12_nextToken_165 N (Hp m F L T) (some 49) (some 49) 2 := by
    intro M p F rb h4 hp h
    rw [f_X12_nextToken_77]
    unfold f_X12_nextToken_165
    rcases h with h | ⟨h, hq⟩
    · simp only [h4, M_by_e rb h, M_let_e, gI_0, gI_2, gI_4, gI_9, gI_15, gI_21, gI_49, gP_0, gP_2, gP_4, gP_9, gP_15, gP_21, gP_49, gR_0, gR_2, gR_4, gR_9, gR_15, gR_21, gR_49, gL_53, gL_54, oPz_0, oPz_1, Option.bind_some, c10, c01, cm1, c00, if_true, if_false, ne_eq, not_true_eq_false, not_false_eq_true]
    · simp only [h4, M_by rb h, M_let_n (rb.2.2 p h).1 hq, gI_0, gI_2, gI_4, gI_9, gI_15, gI_21, gI_49, gP_0, gP_2, gP_4, gP_9, gP_15, gP_21, gP_49, gR_0, gR_2, gR_4, gR_9, gR_15, gR_21, gR_49, gL_53, gL_54, oPz_0, oPz_1, Option.bind_some, c10, c01, cm1, c00, if_true, if_false, ne_eq, not_true_eq_false, not_false_eq_true]
  intro k
  induction k with
  | zero =>
    intro M p F rb h4 hp hk hM
    obtain ⟨M, rfl⟩ : ∃ j, M = j + 1 := ⟨M - 1, by omega⟩
    rw [q_run, up2_id h4]
    exact stop M p F rb h4 hp (Or.inl (by omega))
  | succ k ih =>
    intro M p F rb h4 hp hk hM
    obtain ⟨M, rfl⟩ : ∃ j, M = j + 1 := ⟨M - 1, by omega⟩
    rw [q_run]
    by_cases hq : p < n ∧ q_lt (B p) = true
    · rw [if_pos hq]
      have r := ih M (p + 1) (up2 F 49 11 (nI (p + 1))) (rb.mv2 (q_R2.up (by decide) (by decide))) (up2_s _ _ _ _) (by omega) (by omega) (by omega)
      rw [up2_up2] at r
      rw [f_X12_nextToken_77]
      simp only [h4, M_by rb hq.1, M_let_y (rb.2.2 p hq.1).1 hq.2, nI_1, gI_0, gI_2, gI_4, gI_9, gI_15, gI_21, gI_49, gP_0, gP_2, gP_4, gP_9, gP_15, gP_21, gP_49, gR_0, gR_2, gR_4, gR_9, gR_15, gR_21, gR_49, gL_53, gL_54, oPz_0, oPz_1, Option.bind_some, c10, c01, cm1, c00, if_true, if_false, ne_eq, not_true_eq_false, not_false_eq_true]
      exact r
    · rw [if_neg hq, up2_id h4]
      exact stop M p F rb h4 hp (by
        by_cases h : p < n
        · exact Or.inr ⟨h, fun q => hq ⟨h, q⟩⟩
        · exact Or.inl (by omega))
theorem M_fg {s : Nat} : ∀ (k M p : Nat) (F : Nat → Nat → Int32), q_RB n B F → F 49 11 = nI p → F 49 13 = nI s → s ≤ p → p ≤ n → n ≤ p + k → k < M → f_X12_nextToken_119 N M (Hp m F L T) (some 49) = f_X12_nextToken_165 N (Hp m (up2 F 49 11 (nI (q_run (fun i => q_fg (B i)) n k p))) L T) (some 49) (some 49) (nI (if q_run (fun i => q_fg (B i)) n k p - s ≤ 3 then 3 else 0)) := by
  have stop : ∀ (M p : Nat) (F : Nat → Nat → Int32), q_RB n B F → F 49 11 = nI p → F 49 13 = nI s → s ≤ p → p ≤ n → (p = n ∨ p < n ∧ ¬ q_fg (B p) = true) → f_X12_nextToken_119 N (M + 1) (Hp m F L T) (some 49) = f_X12_nextToken_165 N (Hp m F L T) (some 49) (some 49) (nI (if p - s ≤ 3 then 3 else 0)) := by
    intro M p F rb h4 h13 hsp hp h
    have c := rb.1
    have fin : (if nI p - nI s ≤ (3 : Int32) then f_X12_nextToken_165 N (Hp m F L T) (some 49) (some 49) 3 else f_X12_nextToken_165 N (Hp m F L T) (some 49) (some 49) 0) = f_X12_nextToken_165 N (Hp m F L T) (some 49) (some 49) (nI (if p - s ≤ 3 then 3 else 0)) := by
      rw [pk_sub hsp]
      by_cases h3 : p - s ≤ 3
      · have e : nI (p - s) ≤ (3 : Int32) := nI_le (b := 3) h3 (by omega)
        rw [if_pos h3, if_pos e]; rfl
      · have e : ¬ nI (p - s) ≤ (3 : Int32) := nI_ge (a := 3) (b := p - s) (by omega) (by omega)
        rw [if_neg h3, if_neg e]; rfl
    rw [f_X12_nextToken_119]
    rcases h with h | ⟨h, hq⟩
    · simp only [h4, h13, M_by_e rb h, M_fig_e, gI_0, gI_2, gI_4, gI_9, gI_15, gI_21, gI_49, gP_0, gP_2, gP_4, gP_9, gP_15, gP_21, gP_49, gR_0, gR_2, gR_4, gR_9, gR_15, gR_21, gR_49, gL_53, gL_54, oPz_0, oPz_1, Option.bind_some, c10, c01, cm1, c00, if_true, if_false, ne_eq, not_true_eq_false, not_false_eq_true]
      exact fin
    · simp only [h4, h13, M_by rb h, M_fig_n (rb.2.2 p h).1 hq, gI_0, gI_2, gI_4, gI_9, gI_15, gI_21, gI_49, gP_0, gP_2, gP_4, gP_9, gP_15, gP_21, gP_49, gR_0, gR_2, gR_4, gR_9, gR_15, gR_21, gR_49, gL_53, gL_54, oPz_0, oPz_1, Option.bind_some, c10, c01, cm1, c00, if_true, if_false, ne_eq, not_true_eq_false, not_false_eq_true]
      exact fin
  intro k
  induction k with
  | zero =>
    intro M p F rb h4 h13 hsp hp hk hM
    obtain ⟨M, rfl⟩ : ∃ j, M = j + 1 := ⟨M - 1, by omega⟩
    rw [q_run, up2_id h4]
    exact stop M p F rb h4 h13 hsp hp (Or.inl (by omega))
  | succ k ih =>
    intro M p F rb h4 h13 hsp hp hk hM
    obtain ⟨M, rfl⟩ : ∃ j, M = j + 1 := ⟨M - 1, by omega⟩
    rw [q_run]
    by_cases hq : p < n ∧ q_fg (B p) = true
    · rw [if_pos hq]
      have r := ih M (p + 1) (up2 F 49 11 (nI (p + 1))) (rb.mv2 (q_R2.up (by decide) (by decide))) (up2_s _ _ _ _) (by simp (disch := omega) only [up2_ne, up2_o, up2_s]; exact h13) (by omega) (by omega) (by omega) (by omega)
      rw [up2_up2] at r
      rw [f_X12_nextToken_119]
      simp only [h4, M_by rb hq.1, M_fig_y (rb.2.2 p hq.1).1 hq.2, nI_1, gI_0, gI_2, gI_4, gI_9, gI_15, gI_21, gI_49, gP_0, gP_2, gP_4, gP_9, gP_15, gP_21, gP_49, gR_0, gR_2, gR_4, gR_9, gR_15, gR_21, gR_49, gL_53, gL_54, oPz_0, oPz_1, Option.bind_some, c10, c01, cm1, c00, if_true, if_false, ne_eq, not_true_eq_false, not_false_eq_true]
      exact r
    · rw [if_neg hq, up2_id h4]
      exact stop M p F rb h4 h13 hsp hp (by
        by_cases h : p < n
        · exact Or.inr ⟨h, fun q => hq ⟨h, q⟩⟩
        · exact Or.inl (by omega))
/-- nextToken, from where it stands -/
theorem M_nt {F : Nat → Nat → Int32} {p : Nat} (hN : 5000 ≤ N) (rb : q_RB n B F) (h4 : F 49 11 = nI p) (hp : p ≤ n) : ∃ G, f_X12_nextToken N (Hp m F L T) (some 49) = some ((), Hp m G L T) ∧ q_RT n B G p ∧ q_R2 F G := by
  have c := rb.1
  have hs : q_S B n p ≤ n := q_S_b hp
  unfold f_X12_nextToken
  rw [M_sp n N p F rb h4 hp (by omega) (by omega)]
  unfold q_RT q_E q_K
  rw [show q_run (fun i => q_sp (B i)) n n p = q_S B n p from rfl]
  generalize q_S B n p = s at *
  have c1 : q_R2 F (up2 (up2 F 49 11 (nI s)) 49 13 (nI s)) := (q_R2.up (by decide) (by decide)).trans (q_R2.up (by decide) (by decide))
  have rb1 := rb.mv2 c1
  have a1 : up2 (up2 F 49 11 (nI s)) 49 13 (nI s) 49 11 = nI s := by simp (disch := omega) only [up2_ne, up2_o, up2_s]
  have a3 : up2 (up2 F 49 11 (nI s)) 49 13 (nI s) 49 13 = nI s := by simp (disch := omega) only [up2_ne, up2_o, up2_s]
  unfold q_tl
  simp only [up2_s, gI_0, gI_2, gI_4, gI_9, gI_15, gI_21, gI_49, gP_0, gP_2, gP_4, gP_9, gP_15, gP_21, gP_49, gR_0, gR_2, gR_4, gR_9, gR_15, gR_21, gR_49, gL_53, gL_54, oPz_0, oPz_1, Option.bind_some, c10, c01, cm1, c00, if_true, if_false, ne_eq, not_true_eq_false, not_false_eq_true]
  generalize up2 (up2 F 49 11 (nI s)) 49 13 (nI s) = F1 at *
  simp only [a1]
  have last : ∀ (G : Nat → Nat → Int32) (e : Nat) (x : Int32), q_R2 F G → G 49 11 = nI e → G 49 13 = nI s → ∃ H, f_X12_nextToken_165 N (Hp m G L T) (some 49) (some 49) x = some ((), Hp m H L T) ∧ (H 49 11 = nI e ∧ H 49 12 = x ∧ H 49 13 = nI s ∧ H 49 14 = nI e) ∧ q_R2 F H := by
    intro G e x g1 g2 g3
    have g4 : up2 G 49 12 x 49 11 = nI e := by simp (disch := omega) only [up2_ne, up2_o, up2_s]; exact g2
    refine ⟨up2 (up2 G 49 12 x) 49 14 (nI e), ?_, ⟨by simp (disch := omega) only [up2_ne, up2_o, up2_s]; exact g2, by simp (disch := omega) only [up2_ne, up2_o, up2_s], by simp (disch := omega) only [up2_ne, up2_o, up2_s]; exact g3, by simp (disch := omega) only [up2_ne, up2_o, up2_s]⟩, g1.trans ((q_R2.up (by decide) (by decide)).trans (q_R2.up (by decide) (by decide)))⟩
    simp only [f_X12_nextToken_165, f_X12_nextToken_196, g4, gI_0, gI_2, gI_4, gI_9, gI_15, gI_21, gI_49, gP_0, gP_2, gP_4, gP_9, gP_15, gP_21, gP_49, gR_0, gR_2, gR_4, gR_9, gR_15, gR_21, gR_49, gL_53, gL_54, oPz_0, oPz_1, Option.bind_some, c10, c01, cm1, c00, if_true, if_false, ne_eq, not_true_eq_false, not_false_eq_true]
  unfold q_Es q_Ks
  by_cases h0 : n ≤ s
  · rw [if_pos h0, if_pos h0]
    simp only [M_by_e rb1 (show s = n by omega), gI_0, gI_2, gI_4, gI_9, gI_15, gI_21, gI_49, gP_0, gP_2, gP_4, gP_9, gP_15, gP_21, gP_49, gR_0, gR_2, gR_4, gR_9, gR_15, gR_21, gR_49, gL_53, gL_54, oPz_0, oPz_1, Option.bind_some, c10, c01, cm1, c00, if_true, if_false, ne_eq, not_true_eq_false, not_false_eq_true]
    obtain ⟨H, r1, r2⟩ := last F1 s 1 c1 a1 a3
    refine ⟨H, ?_, r2⟩
    rw [← r1]
    simp only [f_X12_nextToken_165, gI_0, gI_2, gI_4, gI_9, gI_15, gI_21, gI_49, gP_0, gP_2, gP_4, gP_9, gP_15, gP_21, gP_49, gR_0, gR_2, gR_4, gR_9, gR_15, gR_21, gR_49, gL_53, gL_54, oPz_0, oPz_1, Option.bind_some, c10, c01, cm1, c00, if_true, if_false, ne_eq, not_true_eq_false, not_false_eq_true]
  · rw [if_neg h0, if_neg h0]
    have hb := (rb1.2.2 s (by omega)).1
    obtain ⟨-, -, e59, -, -, -, -, e6⟩ := nB_t (B s) hb
    by_cases hl : q_lt (B s) = true
    · rw [if_pos hl, if_pos hl]
      simp only [M_by rb1 (show s < n by omega), e6, M_let_y hb hl, M_lt n N s F1 rb1 a1 (by omega) (by omega) (by omega), gI_0, gI_2, gI_4, gI_9, gI_15, gI_21, gI_49, gP_0, gP_2, gP_4, gP_9, gP_15, gP_21, gP_49, gR_0, gR_2, gR_4, gR_9, gR_15, gR_21, gR_49, gL_53, gL_54, oPz_0, oPz_1, Option.bind_some, c10, c01, cm1, c00, if_true, if_false, ne_eq, not_true_eq_false, not_false_eq_true]
      exact last _ (q_El B n s) 2 (c1.trans (q_R2.up (by decide) (by decide))) (up2_s _ _ _ _) (by simp (disch := omega) only [up2_ne, up2_o, up2_s]; exact a3)
    · rw [if_neg hl, if_neg hl]
      by_cases hf : q_fg (B s) = true
      · rw [if_pos hf, if_pos hf]
        simp only [M_by rb1 (show s < n by omega), e6, M_let_n hb hl, M_fig_y hb hf, M_fg n N s F1 rb1 a1 a3 (Nat.le_refl _) (by omega) (by omega) (by omega), gI_0, gI_2, gI_4, gI_9, gI_15, gI_21, gI_49, gP_0, gP_2, gP_4, gP_9, gP_15, gP_21, gP_49, gR_0, gR_2, gR_4, gR_9, gR_15, gR_21, gR_49, gL_53, gL_54, oPz_0, oPz_1, Option.bind_some, c10, c01, cm1, c00, if_true, if_false, ne_eq, not_true_eq_false, not_false_eq_true]
        rw [show q_run (fun i => q_fg (B i)) n n s = q_Ef B n s from rfl]
        have e : q_rk (if q_Ef B n s - s ≤ 3 then 2 else 4) = if q_Ef B n s - s ≤ 3 then 3 else 0 := by split <;> rfl
        rw [e]
        exact last _ (q_Ef B n s) _ (c1.trans (q_R2.up (by decide) (by decide))) (up2_s _ _ _ _) (by simp (disch := omega) only [up2_ne, up2_o, up2_s]; exact a3)
      · rw [if_neg hf, if_neg hf]
        simp only [M_by rb1 (show s < n by omega), e6, M_let_n hb hl, M_fig_n hb hf, a1, nI_1, f_X12_nextToken_193, gI_0, gI_2, gI_4, gI_9, gI_15, gI_21, gI_49, gP_0, gP_2, gP_4, gP_9, gP_15, gP_21, gP_49, gR_0, gR_2, gR_4, gR_9, gR_15, gR_21, gR_49, gL_53, gL_54, oPz_0, oPz_1, Option.bind_some, c10, c01, cm1, c00, if_true, if_false, ne_eq, not_true_eq_false, not_false_eq_true]
        have r := last (up2 F1 49 11 (nI (s + 1))) (s + 1) (nI (q_rk (if B s = 59 then 3 else 4))) (c1.trans (q_R2.up (by decide) (by decide))) (up2_s _ _ _ _) (by simp (disch := omega) only [up2_ne, up2_o, up2_s]; exact a3)
        obtain ⟨H, r1, r2⟩ := r
        refine ⟨H, ?_, r2⟩
        rw [← r1]
        simp only [f_X12_nextToken_165, gI_0, gI_2, gI_4, gI_9, gI_15, gI_21, gI_49, gP_0, gP_2, gP_4, gP_9, gP_15, gP_21, gP_49, gR_0, gR_2, gR_4, gR_9, gR_15, gR_21, gR_49, gL_53, gL_54, oPz_0, oPz_1, Option.bind_some, c10, c01, cm1, c00, if_true, if_false, ne_eq, not_true_eq_false, not_false_eq_true]
        by_cases h3 : B s = 59
        · rw [if_pos (e59.mpr h3), if_pos h3]; rfl
        · rw [if_neg (fun q => h3 (e59.mp q)), if_neg h3]; rfl
end RL
