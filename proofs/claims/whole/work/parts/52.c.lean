/-! PORT, the reference's words and numbers -/
def q_nb (b : Nat → Nat) (s : Nat) : Nat → Nat
  | 0 => 0
  | k + 1 => q_nb b s k * 256 + b (s + k)
theorem q_nb_lt {b : Nat → Nat} {s : Nat} : ∀ k, (∀ i, i < k → b (s + i) < 256) → q_nb b s k < 256 ^ k
  | 0, _ => by rw [q_nb]; decide
  | k + 1, h => by
    have h1 := q_nb_lt k (fun i hi => h i (by omega))
    have h2 := h k (by omega)
    rw [q_nb, Nat.pow_succ]
    omega
theorem q_nb_inj {b c : Nat → Nat} {s t : Nat} : ∀ k j, (∀ i, i < k → 1 ≤ b (s + i) ∧ b (s + i) < 256) → (∀ i, i < j → 1 ≤ c (t + i) ∧ c (t + i) < 256) → q_nb b s k = q_nb c t j → k = j ∧ ∀ i, i < k → b (s + i) = c (t + i) := by
  intro k
  induction k with
  | zero =>
    intro j h1 h2 h
    cases j with
    | zero => exact ⟨rfl, fun i hi => absurd hi (Nat.not_lt_zero _)⟩
    | succ j =>
      have := h2 j (by omega)
      rw [q_nb, q_nb] at h
      omega
  | succ k ih =>
    intro j h1 h2 h
    cases j with
    | zero =>
      have := h1 k (by omega)
      rw [q_nb, q_nb] at h
      omega
    | succ j =>
      have a1 := h1 k (by omega)
      have a2 := h2 j (by omega)
      rw [q_nb, q_nb] at h
      obtain ⟨e1, e2⟩ := ih j (fun i hi => h1 i (by omega)) (fun i hi => h2 i (by omega)) (by omega)
      refine ⟨by omega, fun i hi => ?_⟩
      by_cases e : i = k
      · subst e
        rw [← e1] at h a2
        omega
      · exact e2 i (by omega)
/-- a name's value, as the reference has it -/
def q_nl (B : Nat → Nat) (n p : Nat) : Nat := if q_K B n p = 1 ∧ q_E B n p - q_S B n p < 8 then q_nb B (q_S B n p) (q_E B n p - q_S B n p) else 0
def q_wv (i : Nat) : Nat := q_nb (q_wc i) 0 (q_wl i)
theorem q_nl_w {B : Nat → Nat} {n p i : Nat} (hi : i < 8) (hp : p ≤ n) : q_nl B n p = q_wv i ↔ q_isW B n p i = true := by
  have l5 := (q_wl_b i hi).1
  have wc := q_wc_b i hi
  have wpos : ∀ i, i < 8 → 0 < q_wv i := by decide +kernel
  unfold q_isW
  rw [decide_eq_true_iff]
  constructor
  · intro h
    unfold q_nl at h
    split at h
    · rename_i hk
      have hl := q_K1 hp hk.1
      unfold q_wv at h
      obtain ⟨e1, e2⟩ := q_nb_inj _ _ (fun j hj => by have := q_lt_y (hl (q_S B n p + j) (by omega) (by omega)); omega) (fun j hj => by rw [Nat.zero_add]; have := wc j hj; omega) h
      exact ⟨hk.1, e1, fun j hj => by have := e2 j (by omega); rw [Nat.zero_add] at this; exact this⟩
    · have := wpos i hi
      omega
  · intro ⟨h1, h2, h3⟩
    unfold q_nl q_wv
    rw [if_pos ⟨h1, by omega⟩, h2]
    have : ∀ k, k ≤ q_wl i → q_nb B (q_S B n p) k = q_nb (q_wc i) 0 k := by
      intro k
      induction k with
      | zero => intro _; rfl
      | succ k ih => intro hk; rw [q_nb, q_nb, ih (by omega), h3 k (by omega), Nat.zero_add]
    exact this _ (Nat.le_refl _)
theorem q_nl_lt {B : Nat → Nat} {n p : Nat} (hp : p ≤ n) : q_nl B n p < 2 ^ 56 := by
  unfold q_nl
  split
  · rename_i hk
    have hl := q_K1 hp hk.1
    have h1 := q_nb_lt (b := B) (s := q_S B n p) (q_E B n p - q_S B n p) (fun j hj => by have := q_lt_y (hl (q_S B n p + j) (by omega) (by omega)); omega)
    have h2 : 256 ^ (q_E B n p - q_S B n p) ≤ 256 ^ 7 := Nat.pow_le_pow_right (by decide) (by omega)
    have h3 : 256 ^ 7 = 2 ^ 56 := by decide
    omega
  · decide
theorem lg_eq0 (a b : Int64) : lg_cmp a b = 0 ↔ a = b := by
  unfold lg_cmp
  split
  · rename_i h
    constructor
    · intro q; exact absurd q (by decide)
    · intro q; subst q; exact absurd h (Int64.lt_irrefl)
  · split
    · rename_i h h2
      exact ⟨fun _ => h2, fun _ => rfl⟩
    · rename_i h h2
      exact ⟨fun q => absurd q (by decide), fun q => absurd q h2⟩
theorem q_cmp {B : Nat → Nat} {n p i : Nat} (hi : i < 8) (hp : p ≤ n) : lg_cmp (lN (q_nl B n p)) (lN (q_wv i)) = 0 ↔ q_isW B n p i = true := by
  have h1 := q_nl_lt (B := B) hp
  have h2 : ∀ i, i < 8 → q_wv i < 2 ^ 56 := by decide +kernel
  have h3 := h2 i hi
  rw [lg_eq0, pk_lEQ (by omega) (by omega), q_nl_w hi hp]
section RW
variable {N m n : Nat} {B : Nat → Nat} {L : Nat → Nat → Option Nat} {T : Nat → Nat} {F : Nat → Nat → Int32} {p : Nat}
theorem lN_or8 {v b : Nat} (hv : v < 2 ^ 48) (hb : b < 256) : (lN v <<< ((8 : Int32).toInt64 &&& 63)) ||| lN b = lN (v * 256 + b) := by
  have h1 := wb_shl v (k := 8) (by decide)
  rw [show nI 8 = 8 from rfl] at h1
  rw [h1, wb_or (by omega) (by omega)]
  congr 1
  have := Nat.two_pow_add_eq_or_of_lt (i := 8) (b := b) (by omega) v
  rw [Nat.mul_comm] at this
  exact this.symm
theorem M_nm_l {s e : Nat} (rb : q_RB n B F) (hse : s ≤ e) (he : e ≤ n) (hl : ∀ i, s ≤ i → i < e → q_lt (B i) = true) (h8 : e - s < 8) (t12 : F 49 12 = 2) (t13 : F 49 13 = nI s) (t14 : F 49 14 = nI e) : ∀ (c M j : Nat), s + j + c = e → c < M → f_X12_name_7 N M (Hp m F L T) (some 49) (lN (q_nb B s j)) (nI (s + j)) = f_X12_name_56 N (Hp m F L T) (some 49) (lN (q_nb B s (j + c))) := by
  have c0 := rb.1
  intro c
  induction c with
  | zero =>
    intro M j hj hM
    obtain ⟨M, rfl⟩ : ∃ j, M = j + 1 := ⟨M - 1, by omega⟩
    have e : nI e ≤ nI (s + j) := nI_le (by omega) (by omega)
    rw [f_X12_name_7]
    simp only [t14, e, Nat.add_zero, gI_0, gI_2, gI_4, gI_9, gI_15, gI_21, gI_49, gP_0, gP_2, gP_4, gP_9, gP_15, gP_21, gP_49, gR_0, gR_2, gR_4, gR_9, gR_15, gR_21, gR_49, gL_53, gL_54, oPz_0, oPz_1, Option.bind_some, c10, c01, cm1, c00, if_true, if_false, ne_eq, not_true_eq_false, not_false_eq_true]
  | succ c ih =>
    intro M j hj hM
    obtain ⟨M, rfl⟩ : ∃ j, M = j + 1 := ⟨M - 1, by omega⟩
    have e1 : ¬ nI e ≤ nI (s + j) := nI_ge (by omega) (by omega)
    have e2 : ¬ (8 : Int32) ≤ nI (e - s) := nI_ge (a := e - s) (b := 8) (by omega) (by omega)
    have hb := (rb.2.2 (s + j) (by omega)).1
    have hv : q_nb B s j < 256 ^ j := q_nb_lt j (fun i hi => (rb.2.2 (s + i) (by omega)).1)
    have h6 : 256 ^ j ≤ 256 ^ 6 := Nat.pow_le_pow_right (by decide) (by omega)
    have h66 : 256 ^ 6 = 2 ^ 48 := by decide
    have e3 : (nI (B (s + j))).toInt64 = lN (B (s + j)) := nI_l (by omega)
    have e4 := lN_or8 (v := q_nb B s j) (b := B (s + j)) (by omega) hb
    rw [f_X12_name_7]
    simp only [t14, t12, t13, e1, pk_sub hse, e2, (gN_55 (show s + j < 400 by omega)).1, (rb.2.2 (s + j) (by omega)).2, e3, e4, nI_1, gI_0, gI_2, gI_4, gI_9, gI_15, gI_21, gI_49, gP_0, gP_2, gP_4, gP_9, gP_15, gP_21, gP_49, gR_0, gR_2, gR_4, gR_9, gR_15, gR_21, gR_49, gL_53, gL_54, oPz_0, oPz_1, Option.bind_some, c10, c01, cm1, c00, if_true, if_false, ne_eq, not_true_eq_false, not_false_eq_true]
    have r := ih M (j + 1) (by omega) (by omega)
    rw [show s + (j + 1) = s + j + 1 by omega, show j + 1 + c = j + (c + 1) by omega, q_nb] at r
    exact r
theorem M_name (hN : 5000 ≤ N) (rb : q_RB n B F) (rt : q_RT n B F p) (hp : p ≤ n) : f_X12_name N (Hp m F L T) (some 49) = f_X12_name_56 N (Hp m F L T) (some 49) (lN (q_nl B n p)) := by
  have c0 := rb.1
  obtain ⟨t11, t12, t13, t14⟩ := rt
  obtain ⟨b1, b2⟩ := q_E_b (B := B) hp
  have k4 : q_K B n p ≤ 4 := q_K_le
  simp only [f_X12_name, f_X12_name_0, t13, gI_0, gI_2, gI_4, gI_9, gI_15, gI_21, gI_49, gP_0, gP_2, gP_4, gP_9, gP_15, gP_21, gP_49, gR_0, gR_2, gR_4, gR_9, gR_15, gR_21, gR_49, gL_53, gL_54, oPz_0, oPz_1, Option.bind_some, c10, c01, cm1, c00, if_true, if_false, ne_eq, not_true_eq_false, not_false_eq_true]
  unfold q_nl
  by_cases hk : q_K B n p = 1
  · have t12' : F 49 12 = 2 := by rw [t12, hk]; rfl
    by_cases h8 : q_E B n p - q_S B n p < 8
    · rw [if_pos ⟨hk, h8⟩]
      have r := M_nm_l (N := N) (m := m) (L := L) (T := T) (s := q_S B n p) (e := q_E B n p) rb b1 b2 (q_K1 hp hk) h8 t12' t13 t14 (q_E B n p - q_S B n p) N 0 (by omega) (by omega)
      rw [Nat.zero_add, Nat.add_zero] at r
      exact r
    · rw [if_neg (fun q => h8 q.2)]
      obtain ⟨M, rfl⟩ : ∃ j, N = j + 1 := ⟨N - 1, by omega⟩
      have e1 : ¬ nI (q_E B n p) ≤ nI (q_S B n p) := nI_ge (by omega) (by omega)
      have e2 : (8 : Int32) ≤ nI (q_E B n p - q_S B n p) := nI_le (a := 8) (by omega) (by omega)
      rw [f_X12_name_7]
      simp only [t14, t12', t13, e1, pk_sub b1, e2, gI_0, gI_2, gI_4, gI_9, gI_15, gI_21, gI_49, gP_0, gP_2, gP_4, gP_9, gP_15, gP_21, gP_49, gR_0, gR_2, gR_4, gR_9, gR_15, gR_21, gR_49, gL_53, gL_54, oPz_0, oPz_1, Option.bind_some, c10, c01, cm1, c00, if_true, if_false, ne_eq, not_true_eq_false, not_false_eq_true]
      rfl
  · rw [if_neg (fun q => hk q.1)]
    have e2 : ¬ nI (q_rk (q_K B n p)) = 2 := by
      unfold q_rk
      split
      · decide
      · exact fun q => hk (by have := (nI_eq (b := 2) (by omega) (by omega)).mp q; omega)
    obtain ⟨M, rfl⟩ : ∃ j, N = j + 1 := ⟨N - 1, by omega⟩
    rw [f_X12_name_7]
    by_cases e1 : nI (q_E B n p) ≤ nI (q_S B n p)
    · simp only [t14, e1, gI_0, gI_2, gI_4, gI_9, gI_15, gI_21, gI_49, gP_0, gP_2, gP_4, gP_9, gP_15, gP_21, gP_49, gR_0, gR_2, gR_4, gR_9, gR_15, gR_21, gR_49, gL_53, gL_54, oPz_0, oPz_1, Option.bind_some, c10, c01, cm1, c00, if_true, if_false, ne_eq, not_true_eq_false, not_false_eq_true]
      rfl
    · simp only [t14, t12, e1, e2, gI_0, gI_2, gI_4, gI_9, gI_15, gI_21, gI_49, gP_0, gP_2, gP_4, gP_9, gP_15, gP_21, gP_49, gR_0, gR_2, gR_4, gR_9, gR_15, gR_21, gR_49, gL_53, gL_54, oPz_0, oPz_1, Option.bind_some, c10, c01, cm1, c00, if_true, if_false, ne_eq, not_true_eq_false, not_false_eq_true]
      rfl
theorem M_name_y (hN : 5000 ≤ N) (rb : q_RB n B F) (rt : q_RT n B F p) (hp : p ≤ n) (h0 : F 49 15 = 0) : f_X12_name N (Hp m F L T) (some 49) = some (lN (q_nl B n p), Hp m F L T) := by
  rw [M_name hN rb rt hp]
  simp only [f_X12_name_56, f_X12_name_68, h0, gI_0, gI_2, gI_4, gI_9, gI_15, gI_21, gI_49, gP_0, gP_2, gP_4, gP_9, gP_15, gP_21, gP_49, gR_0, gR_2, gR_4, gR_9, gR_15, gR_21, gR_49, gL_53, gL_54, oPz_0, oPz_1, Option.bind_some, c10, c01, cm1, c00, if_true, if_false, ne_eq, not_true_eq_false, not_false_eq_true]
theorem M_name_f (hN : 5000 ≤ N) (rb : q_RB n B F) (rt : q_RT n B F p) (hp : p ≤ n) (h0 : ¬ F 49 15 = 0) : f_X12_name N (Hp m F L T) (some 49) = some (0, Hp m F L T) := by
  rw [M_name hN rb rt hp]
  simp only [f_X12_name_56, f_X12_name_68, h0, gI_0, gI_2, gI_4, gI_9, gI_15, gI_21, gI_49, gP_0, gP_2, gP_4, gP_9, gP_15, gP_21, gP_49, gR_0, gR_2, gR_4, gR_9, gR_15, gR_21, gR_49, gL_53, gL_54, oPz_0, oPz_1, Option.bind_some, c10, c01, cm1, c00, if_true, if_false, ne_eq, not_true_eq_false, not_false_eq_true]
theorem M_kind (hp : p ≤ n) : ∀ A, f_X12_kindBy N A (lN (q_nl B n p)) = some (if q_kd B n p = 0 then -1000000 else nI (q_kd B n p), A) := by
  intro A
  have w : ∀ i, i < 8 → q_isW B n p i = true → q_nl B n p = q_wv i := fun i hi h => (q_nl_w hi hp).mpr h
  have v : ∀ i, i < 8 → ¬ q_isW B n p i = true → ¬ lg_cmp (lN (q_nl B n p)) (lN (q_wv i)) = 0 := fun i hi h q => h ((q_cmp hi hp).mp q)
  unfold q_kd
  by_cases h2 : q_isW B n p 2 = true
  · rw [w 2 (by decide) h2, if_pos h2]; rfl
  rw [if_neg h2]
  by_cases h3 : q_isW B n p 3 = true
  · rw [w 3 (by decide) h3, if_pos h3]; rfl
  rw [if_neg h3]
  by_cases h4 : q_isW B n p 4 = true
  · rw [w 4 (by decide) h4, if_pos h4]; rfl
  rw [if_neg h4]
  by_cases h5 : q_isW B n p 5 = true
  · rw [w 5 (by decide) h5, if_pos h5]; rfl
  rw [if_neg h5]
  by_cases h6 : q_isW B n p 6 = true
  · rw [w 6 (by decide) h6, if_pos h6]; rfl
  rw [if_neg h6]
  have u2 : ¬ lg_cmp (lN (q_nl B n p)) 1935764596 = 0 := v 2 (by decide) h2
  have u3 : ¬ lg_cmp (lN (q_nl B n p)) 1718186856 = 0 := v 3 (by decide) h3
  have u4 : ¬ lg_cmp (lN (q_nl B n p)) 2003791724 = 0 := v 4 (by decide) h4
  have u5 : ¬ lg_cmp (lN (q_nl B n p)) 495874698853 = 0 := v 5 (by decide) h5
  have u6 : ¬ lg_cmp (lN (q_nl B n p)) 512852323429 = 0 := v 6 (by decide) h6
  simp only [f_X12_kindBy, f_X12_kindBy_0, f_X12_kindBy_62, u2, u3, u4, u5, u6, gI_0, gI_2, gI_4, gI_9, gI_15, gI_21, gI_49, gP_0, gP_2, gP_4, gP_9, gP_15, gP_21, gP_49, gR_0, gR_2, gR_4, gR_9, gR_15, gR_21, gR_49, gL_53, gL_54, oPz_0, oPz_1, Option.bind_some, c10, c01, cm1, c00, if_true, if_false, ne_eq, not_true_eq_false, not_false_eq_true]
/-- must -/
theorem M_must_y (hN : 5000 ≤ N) (rb : q_RB n B F) (rt : q_RT n B F p) (hp : p ≤ n) (h0 : F 49 15 = 0) : ∃ G, f_X12_must N (Hp m F L T) (some 49) 1 = some ((), Hp m G L T) ∧ q_RT n B G (q_E B n p) ∧ q_R2 F G := by
  obtain ⟨G, g1, g2, g3⟩ := M_nt (N := N) (m := m) (L := L) (T := T) hN rb rt.1 (q_E_b hp).2
  refine ⟨G, ?_, g2, g3⟩
  simp only [f_X12_must, f_X12_must_0, f_X12_must_9, f_X12_must_20, h0, g1, gI_0, gI_2, gI_4, gI_9, gI_15, gI_21, gI_49, gP_0, gP_2, gP_4, gP_9, gP_15, gP_21, gP_49, gR_0, gR_2, gR_4, gR_9, gR_15, gR_21, gR_49, gL_53, gL_54, oPz_0, oPz_1, Option.bind_some, c10, c01, cm1, c00, if_true, if_false, ne_eq, not_true_eq_false, not_false_eq_true]
/-- a fault -/
def q_RF (n : Nat) (B : Nat → Nat) (F : Nat → Nat → Int32) (f : Nat × Nat) : Prop := q_RB n B F ∧ (∃ p, p ≤ n ∧ q_RT n B F p) ∧ F 49 15 = nI f.1 ∧ F 49 16 = nI f.2 ∧ 1 ≤ f.1 ∧ f.1 ≤ 3
/-- what reading may change of the reference -/
def q_R3 (F G : Nat → Nat → Int32) : Prop := (∀ q, q ≠ 49 → q ≠ 54 → G q = F q) ∧ ∀ k, (k < 11 ∨ 16 < k) → G 49 k = F 49 k
theorem q_R3.refl (F : Nat → Nat → Int32) : q_R3 F F := ⟨fun _ _ _ => rfl, fun _ _ => rfl⟩
theorem q_R3.trans {F G H : Nat → Nat → Int32} (h : q_R3 F G) (k : q_R3 G H) : q_R3 F H := ⟨fun q a b => (k.1 q a b).trans (h.1 q a b), fun j hj => (k.2 j hj).trans (h.2 j hj)⟩
theorem q_R2.r3 {F G : Nat → Nat → Int32} (h : q_R2 F G) : q_R3 F G := ⟨fun q a _ => h.1 q a, fun k hk => h.2 k (by omega)⟩
theorem q_R3.fr {F : Nat → Nat → Int32} {k : Nat} {v : Int32} : q_R3 F (up2 F 54 k v) := ⟨fun q _ b => up2_ne b, fun k _ => by rw [up2_ne (by decide)]⟩
theorem q_R3.rb {F G : Nat → Nat → Int32} (h : q_R3 F G) (rb : q_RB n B F) : q_RB n B G := rb.mv (h.2 10 (by decide)) (h.1 55 (by decide) (by decide))
theorem q_RF.fr {f : Nat × Nat} {k : Nat} {v : Int32} (h : q_RF n B F f) : q_RF n B (up2 F 54 k v) f := by
  obtain ⟨h1, ⟨p, h2, h3⟩, h4, h5, h6⟩ := h
  have e : up2 F 54 k v 49 = F 49 := up2_ne (by decide)
  refine ⟨h1.mv (by rw [e]) (up2_ne (by decide)), ⟨p, h2, ?_⟩, by rw [e]; exact h4, by rw [e]; exact h5, h6⟩
  unfold q_RT
  rw [e]
  exact h3
theorem q_RF.ne {f : Nat × Nat} (h : q_RF n B F f) : ¬ F 49 15 = 0 := by
  rw [h.2.2.1]
  exact nI_ne0 (by have := h.2.2.2.2; omega) (by have := h.2.2.2.2; omega)
theorem M_bad {k : Nat} (k1 : 1 ≤ k) (k3 : k ≤ 3) (rb : q_RB n B F) (rt : q_RT n B F p) (hp : p ≤ n) (h0 : F 49 15 = 0) : ∃ G, f_X12_bad N (Hp m F L T) (some 49) (nI k) = some ((), Hp m G L T) ∧ q_RF n B G (k, q_S B n p) ∧ q_R3 F G ∧ ∀ j, j ≠ 15 → j ≠ 16 → G 49 j = F 49 j := by
  have e : up2 F 49 15 (nI k) 49 13 = nI (q_S B n p) := by simp (disch := omega) only [up2_ne, up2_o, up2_s]; exact rt.2.2.1
  have gk : ∀ j, j ≠ 15 → j ≠ 16 → up2 (up2 F 49 15 (nI k)) 49 16 (nI (q_S B n p)) 49 j = F 49 j := fun j a b => by rw [up2_o b, up2_o a]
  refine ⟨up2 (up2 F 49 15 (nI k)) 49 16 (nI (q_S B n p)), ?_, ⟨rb.mv (gk 10 (by decide) (by decide)) (by simp (disch := omega) only [up2_ne, up2_o, up2_s]), ⟨p, hp, ?_⟩, by simp (disch := omega) only [up2_ne, up2_o, up2_s], by simp (disch := omega) only [up2_ne, up2_o, up2_s], k1, k3⟩, ⟨fun q a b => by rw [up2_ne a, up2_ne a], fun j hj => gk j (by omega) (by omega)⟩, gk⟩
  · simp only [f_X12_bad, f_X12_bad_0, f_X12_bad_20, h0, e, gI_0, gI_2, gI_4, gI_9, gI_15, gI_21, gI_49, gP_0, gP_2, gP_4, gP_9, gP_15, gP_21, gP_49, gR_0, gR_2, gR_4, gR_9, gR_15, gR_21, gR_49, gL_53, gL_54, oPz_0, oPz_1, Option.bind_some, c10, c01, cm1, c00, if_true, if_false, ne_eq, not_true_eq_false, not_false_eq_true]
  · unfold q_RT
    rw [gk 11 (by decide) (by decide), gk 12 (by decide) (by decide), gk 13 (by decide) (by decide), gk 14 (by decide) (by decide)]
    exact rt
theorem M_bad_f {f : Nat × Nat} {x : Int32} (h : q_RF n B F f) : f_X12_bad N (Hp m F L T) (some 49) x = some ((), Hp m F L T) := by
  simp only [f_X12_bad, f_X12_bad_0, f_X12_bad_20, h.ne, gI_0, gI_2, gI_4, gI_9, gI_15, gI_21, gI_49, gP_0, gP_2, gP_4, gP_9, gP_15, gP_21, gP_49, gR_0, gR_2, gR_4, gR_9, gR_15, gR_21, gR_49, gL_53, gL_54, oPz_0, oPz_1, Option.bind_some, c10, c01, cm1, c00, if_true, if_false, ne_eq, not_true_eq_false, not_false_eq_true]
theorem M_must_n (rb : q_RB n B F) (rt : q_RT n B F p) (hp : p ≤ n) (h0 : F 49 15 = 0) : ∃ G, f_X12_must N (Hp m F L T) (some 49) 0 = some ((), Hp m G L T) ∧ q_RF n B G (1, q_S B n p) ∧ q_R3 F G := by
  obtain ⟨G, g1, g2, g3, -⟩ := M_bad (N := N) (m := m) (L := L) (T := T) (k := 1) (by decide) (by decide) rb rt hp h0
  have e := g2.ne
  rw [show nI 1 = 1 from rfl] at g1
  refine ⟨G, ?_, g2, g3⟩
  simp only [f_X12_must, f_X12_must_0, f_X12_must_9, f_X12_must_20, g1, e, gI_0, gI_2, gI_4, gI_9, gI_15, gI_21, gI_49, gP_0, gP_2, gP_4, gP_9, gP_15, gP_21, gP_49, gR_0, gR_2, gR_4, gR_9, gR_15, gR_21, gR_49, gL_53, gL_54, oPz_0, oPz_1, Option.bind_some, c10, c01, cm1, c00, if_true, if_false, ne_eq, not_true_eq_false, not_false_eq_true]
theorem M_must_f {f : Nat × Nat} {x : Int32} (h : q_RF n B F f) : f_X12_must N (Hp m F L T) (some 49) x = some ((), Hp m F L T) := by
  have e := h.ne
  by_cases hx : x = 0
  · simp only [f_X12_must, f_X12_must_0, f_X12_must_9, f_X12_must_20, hx, M_bad_f h, e, gI_0, gI_2, gI_4, gI_9, gI_15, gI_21, gI_49, gP_0, gP_2, gP_4, gP_9, gP_15, gP_21, gP_49, gR_0, gR_2, gR_4, gR_9, gR_15, gR_21, gR_49, gL_53, gL_54, oPz_0, oPz_1, Option.bind_some, c10, c01, cm1, c00, if_true, if_false, ne_eq, not_true_eq_false, not_false_eq_true]
  · simp only [f_X12_must, f_X12_must_0, f_X12_must_9, f_X12_must_20, hx, e, gI_0, gI_2, gI_4, gI_9, gI_15, gI_21, gI_49, gP_0, gP_2, gP_4, gP_9, gP_15, gP_21, gP_49, gR_0, gR_2, gR_4, gR_9, gR_15, gR_21, gR_49, gL_53, gL_54, oPz_0, oPz_1, Option.bind_some, c10, c01, cm1, c00, if_true, if_false, ne_eq, not_true_eq_false, not_false_eq_true]
theorem M_num_f {f : Nat × Nat} {x y : Int32} (h : q_RF n B F f) : f_X12_number N (Hp m F L T) (some 49) x y = some (0, Hp m F L T) := by
  have e : ¬ F 49 15 ≤ 0 := by
    rw [h.2.2.1]
    exact nI_nle (by have := h.2.2.2.2; omega) (by have := h.2.2.2.2; omega)
  simp only [f_X12_number, f_X12_number_0, e, gI_0, gI_2, gI_4, gI_9, gI_15, gI_21, gI_49, gP_0, gP_2, gP_4, gP_9, gP_15, gP_21, gP_49, gR_0, gR_2, gR_4, gR_9, gR_15, gR_21, gR_49, gL_53, gL_54, oPz_0, oPz_1, Option.bind_some, c10, c01, cm1, c00, if_true, if_false, ne_eq, not_true_eq_false, not_false_eq_true]
theorem M_end_f {f : Nat × Nat} (h : q_RF n B F f) : f_X12_mustEnd N (Hp m F L T) (some 49) = some ((), Hp m F L T) := by
  simp only [f_X12_mustEnd, f_X12_mustEnd_0, f_X12_mustEnd_24, h.ne, gI_0, gI_2, gI_4, gI_9, gI_15, gI_21, gI_49, gP_0, gP_2, gP_4, gP_9, gP_15, gP_21, gP_49, gR_0, gR_2, gR_4, gR_9, gR_15, gR_21, gR_49, gL_53, gL_54, oPz_0, oPz_1, Option.bind_some, c10, c01, cm1, c00, if_true, if_false, ne_eq, not_true_eq_false, not_false_eq_true]
theorem M_fgs_l {s e : Nat} (rb : q_RB n B F) (hse : s ≤ e) (he : e ≤ n) (hl : ∀ i, s ≤ i → i < e → q_fg (B i) = true) (t12 : F 49 12 = 3) (t14 : F 49 14 = nI e) : ∀ (c M j : Nat), s + j + c = e → c < M → f_X12_figures_7 N M (Hp m F L T) (some 49) (nI (q_nv B s j)) (nI (s + j)) = some (nI (q_nv B s (j + c)), Hp m F L T) := by
  have c0 := rb.1
  intro c
  induction c with
  | zero =>
    intro M j hj hM
    obtain ⟨M, rfl⟩ : ∃ j, M = j + 1 := ⟨M - 1, by omega⟩
    have e : nI e ≤ nI (s + j) := nI_le (by omega) (by omega)
    rw [f_X12_figures_7]
    simp only [t14, e, Nat.add_zero, f_X12_figures_44, gI_0, gI_2, gI_4, gI_9, gI_15, gI_21, gI_49, gP_0, gP_2, gP_4, gP_9, gP_15, gP_21, gP_49, gR_0, gR_2, gR_4, gR_9, gR_15, gR_21, gR_49, gL_53, gL_54, oPz_0, oPz_1, Option.bind_some, c10, c01, cm1, c00, if_true, if_false, ne_eq, not_true_eq_false, not_false_eq_true]
  | succ c ih =>
    intro M j hj hM
    obtain ⟨M, rfl⟩ : ∃ j, M = j + 1 := ⟨M - 1, by omega⟩
    have e1 : ¬ nI e ≤ nI (s + j) := nI_ge (by omega) (by omega)
    have b3 := q_fg_y (hl (s + j) (by omega) (by omega))
    have e2 : (10 : Int32) * nI (q_nv B s j) + nI (B (s + j)) - 48 = nI (q_nv B s (j + 1)) := by
      rw [show (10 : Int32) = nI 10 from rfl, pk_mul, nI_add, show (48 : Int32) = nI 48 from rfl, pk_sub (by omega), q_nv]
      congr 1
      omega
    rw [f_X12_figures_7]
    simp only [t14, t12, e1, (gN_55 (show s + j < 400 by omega)).1, (rb.2.2 (s + j) (by omega)).2, e2, nI_1, gI_0, gI_2, gI_4, gI_9, gI_15, gI_21, gI_49, gP_0, gP_2, gP_4, gP_9, gP_15, gP_21, gP_49, gR_0, gR_2, gR_4, gR_9, gR_15, gR_21, gR_49, gL_53, gL_54, oPz_0, oPz_1, Option.bind_some, c10, c01, cm1, c00, if_true, if_false, ne_eq, not_true_eq_false, not_false_eq_true]
    have r := ih M (j + 1) (by omega) (by omega)
    rw [show s + (j + 1) = s + j + 1 by omega, show j + 1 + c = j + (c + 1) by omega] at r
    exact r
theorem M_fgs (hN : 5000 ≤ N) (rb : q_RB n B F) (rt : q_RT n B F p) (hp : p ≤ n) (hk : q_K B n p = 2) : f_X12_figures N (Hp m F L T) (some 49) = some (nI (q_val B n p), Hp m F L T) := by
  have c0 := rb.1
  obtain ⟨t11, t12, t13, t14⟩ := rt
  obtain ⟨h1, h2⟩ := q_K2 hp hk
  have h3 := q_E_b (B := B) hp
  have t12' : F 49 12 = 3 := by rw [t12, hk]; rfl
  have r := M_fgs_l (N := N) (m := m) (L := L) (T := T) (s := q_S B n p) (e := q_E B n p) rb h3.1 h3.2 h2 t12' t14 (q_E B n p - q_S B n p) N 0 (by omega) (by omega)
  rw [Nat.add_zero, Nat.zero_add] at r
  simp only [f_X12_figures, f_X12_figures_0, t13, gI_0, gI_2, gI_4, gI_9, gI_15, gI_21, gI_49, gP_0, gP_2, gP_4, gP_9, gP_15, gP_21, gP_49, gR_0, gR_2, gR_4, gR_9, gR_15, gR_21, gR_49, gL_53, gL_54, oPz_0, oPz_1, Option.bind_some, c10, c01, cm1, c00, if_true, if_false, ne_eq, not_true_eq_false, not_false_eq_true]
  exact r
theorem M_fgs_n (hN : 5000 ≤ N) (rt : q_RT n B F p) (hk : q_K B n p ≠ 2) : f_X12_figures N (Hp m F L T) (some 49) = some (0, Hp m F L T) ∧ ¬ F 49 12 = 3 := by
  obtain ⟨t11, t12, t13, t14⟩ := rt
  have k4 : q_K B n p ≤ 4 := q_K_le
  have e2 : ¬ F 49 12 = 3 := by
    rw [t12]
    unfold q_rk
    split
    · decide
    · exact fun q => hk (by have := (nI_eq (b := 3) (by omega) (by omega)).mp q; omega)
  refine ⟨?_, e2⟩
  obtain ⟨M, rfl⟩ : ∃ j, N = j + 1 := ⟨N - 1, by omega⟩
  simp only [f_X12_figures, f_X12_figures_0, t13, gI_0, gI_2, gI_4, gI_9, gI_15, gI_21, gI_49, gP_0, gP_2, gP_4, gP_9, gP_15, gP_21, gP_49, gR_0, gR_2, gR_4, gR_9, gR_15, gR_21, gR_49, gL_53, gL_54, oPz_0, oPz_1, Option.bind_some, c10, c01, cm1, c00, if_true, if_false, ne_eq, not_true_eq_false, not_false_eq_true]
  rw [f_X12_figures_7]
  by_cases e1 : nI (q_E B n p) ≤ nI (q_S B n p)
  · simp only [t14, e1, f_X12_figures_44, gI_0, gI_2, gI_4, gI_9, gI_15, gI_21, gI_49, gP_0, gP_2, gP_4, gP_9, gP_15, gP_21, gP_49, gR_0, gR_2, gR_4, gR_9, gR_15, gR_21, gR_49, gL_53, gL_54, oPz_0, oPz_1, Option.bind_some, c10, c01, cm1, c00, if_true, if_false, ne_eq, not_true_eq_false, not_false_eq_true]
  · simp only [t14, e1, e2, f_X12_figures_44, gI_0, gI_2, gI_4, gI_9, gI_15, gI_21, gI_49, gP_0, gP_2, gP_4, gP_9, gP_15, gP_21, gP_49, gR_0, gR_2, gR_4, gR_9, gR_15, gR_21, gR_49, gL_53, gL_54, oPz_0, oPz_1, Option.bind_some, c10, c01, cm1, c00, if_true, if_false, ne_eq, not_true_eq_false, not_false_eq_true]
theorem M_num_y {lo hi v : Nat} (hN : 5000 ≤ N) (rb : q_RB n B F) (rt : q_RT n B F p) (hp : p ≤ n) (h0 : F 49 15 = 0) (hlo : lo < 2 ^ 30) (hhi : hi < 2 ^ 30) (h : q_nm B n lo hi p = .inr v) : ∃ G, f_X12_number N (Hp m F L T) (some 49) (nI lo) (nI hi) = some (nI v, Hp m G L T) ∧ q_RT n B G (q_E B n p) ∧ q_R2 F G := by
  obtain ⟨k1, rfl, k2, k3⟩ := q_nm_r h
  have vb := q_val_b hp k1
  have t12 : F 49 12 = 3 := by rw [rt.2.1, k1]; rfl
  obtain ⟨G, g1, g2, g3⟩ := M_must_y (N := N) (m := m) (L := L) (T := T) hN rb rt hp h0
  have e0 : F 49 15 ≤ 0 := by rw [h0]; decide
  have e1 := X12_in32 N (Hp m F L T) (nI (q_val B n p)) (nI lo) (nI hi)
  rw [bI_t ⟨nI_le k2 (by omega), nI_le k3 (by omega)⟩] at e1
  refine ⟨G, ?_, g2, g3⟩
  simp only [f_X12_number, f_X12_number_0, f_X12_number_39, f_X12_number_53, e0, M_fgs hN rb rt hp k1, t12, e1, g1, gI_0, gI_2, gI_4, gI_9, gI_15, gI_21, gI_49, gP_0, gP_2, gP_4, gP_9, gP_15, gP_21, gP_49, gR_0, gR_2, gR_4, gR_9, gR_15, gR_21, gR_49, gL_53, gL_54, oPz_0, oPz_1, Option.bind_some, c10, c01, cm1, c00, if_true, if_false, ne_eq, not_true_eq_false, not_false_eq_true]
theorem M_num_n {lo hi k : Nat} (hN : 5000 ≤ N) (rb : q_RB n B F) (rt : q_RT n B F p) (hp : p ≤ n) (h0 : F 49 15 = 0) (hlo : lo < 2 ^ 30) (hhi : hi < 2 ^ 30) (h : q_nm B n lo hi p = .inl k) : ∃ v G, f_X12_number N (Hp m F L T) (some 49) (nI lo) (nI hi) = some (v, Hp m G L T) ∧ q_RF n B G (k, q_S B n p) ∧ q_R3 F G := by
  have e0 : F 49 15 ≤ 0 := by rw [h0]; decide
  rcases q_nm_l h with ⟨k1, rfl⟩ | ⟨k1, k2, rfl⟩
  · obtain ⟨f1, f2⟩ := M_fgs_n (N := N) (m := m) (L := L) (T := T) hN rt k1
    obtain ⟨G, g1, g2, g3⟩ := M_must_n (N := N) (m := m) (L := L) (T := T) rb rt hp h0
    refine ⟨0, G, ?_, g2, g3⟩
    simp only [f_X12_number, f_X12_number_0, f_X12_number_39, f_X12_number_53, e0, f1, f2, g1, gI_0, gI_2, gI_4, gI_9, gI_15, gI_21, gI_49, gP_0, gP_2, gP_4, gP_9, gP_15, gP_21, gP_49, gR_0, gR_2, gR_4, gR_9, gR_15, gR_21, gR_49, gL_53, gL_54, oPz_0, oPz_1, Option.bind_some, c10, c01, cm1, c00, if_true, if_false, ne_eq, not_true_eq_false, not_false_eq_true]
  · have vb := q_val_b hp k1
    have t12 : F 49 12 = 3 := by rw [rt.2.1, k1]; rfl
    have e1 := X12_in32 N (Hp m F L T) (nI (q_val B n p)) (nI lo) (nI hi)
    rw [bI_f (fun q => k2 ⟨(nI_leI (by omega) (by omega)).mp q.1, (nI_leI (by omega) (by omega)).mp q.2⟩)] at e1
    obtain ⟨G, g1, g2, g3, g4⟩ := M_bad (N := N) (m := m) (L := L) (T := T) (k := 2) (by decide) (by decide) rb rt hp h0
    rw [show nI 2 = 2 from rfl] at g1
    have t12' : G 49 12 = 3 := by rw [g4 12 (by decide) (by decide)]; exact t12
    refine ⟨nI (q_val B n p), G, ?_, g2, g3⟩
    simp only [f_X12_number, f_X12_number_0, f_X12_number_39, f_X12_number_53, e0, M_fgs hN rb rt hp k1, t12, e1, g1, t12', M_must_f g2, gI_0, gI_2, gI_4, gI_9, gI_15, gI_21, gI_49, gP_0, gP_2, gP_4, gP_9, gP_15, gP_21, gP_49, gR_0, gR_2, gR_4, gR_9, gR_15, gR_21, gR_49, gL_53, gL_54, oPz_0, oPz_1, Option.bind_some, c10, c01, cm1, c00, if_true, if_false, ne_eq, not_true_eq_false, not_false_eq_true]
theorem M_end_y (hN : 5000 ≤ N) (rb : q_RB n B F) (rt : q_RT n B F p) (hp : p ≤ n) (h0 : F 49 15 = 0) (h : q_K B n p = 3) : ∃ G, f_X12_mustEnd N (Hp m F L T) (some 49) = some ((), Hp m G L T) ∧ q_RT n B G (q_E B n p) ∧ q_R2 F G := by
  have t12 : F 49 12 = 4 := by rw [rt.2.1, h]; rfl
  obtain ⟨G, g1, g2, g3⟩ := M_must_y (N := N) (m := m) (L := L) (T := T) hN rb rt hp h0
  refine ⟨G, ?_, g2, g3⟩
  simp only [f_X12_mustEnd, f_X12_mustEnd_0, f_X12_mustEnd_21, f_X12_mustEnd_24, h0, t12, g1, gI_0, gI_2, gI_4, gI_9, gI_15, gI_21, gI_49, gP_0, gP_2, gP_4, gP_9, gP_15, gP_21, gP_49, gR_0, gR_2, gR_4, gR_9, gR_15, gR_21, gR_49, gL_53, gL_54, oPz_0, oPz_1, Option.bind_some, c10, c01, cm1, c00, if_true, if_false, ne_eq, not_true_eq_false, not_false_eq_true]
theorem M_end_n (rb : q_RB n B F) (rt : q_RT n B F p) (hp : p ≤ n) (h0 : F 49 15 = 0) (h : q_K B n p ≠ 3) : ∃ G, f_X12_mustEnd N (Hp m F L T) (some 49) = some ((), Hp m G L T) ∧ q_RF n B G (1, q_S B n p) ∧ q_R3 F G := by
  have k4 : q_K B n p ≤ 4 := q_K_le
  have t12 : ¬ F 49 12 = 4 := by
    rw [rt.2.1]
    unfold q_rk
    split
    · decide
    · exact fun q => h (by have := (nI_eq (b := 4) (by omega) (by omega)).mp q; omega)
  obtain ⟨G, g1, g2, g3⟩ := M_must_n (N := N) (m := m) (L := L) (T := T) rb rt hp h0
  refine ⟨G, ?_, g2, g3⟩
  simp only [f_X12_mustEnd, f_X12_mustEnd_0, f_X12_mustEnd_21, f_X12_mustEnd_24, h0, t12, g1, gI_0, gI_2, gI_4, gI_9, gI_15, gI_21, gI_49, gP_0, gP_2, gP_4, gP_9, gP_15, gP_21, gP_49, gR_0, gR_2, gR_4, gR_9, gR_15, gR_21, gR_49, gL_53, gL_54, oPz_0, oPz_1, Option.bind_some, c10, c01, cm1, c00, if_true, if_false, ne_eq, not_true_eq_false, not_false_eq_true]
end RW
