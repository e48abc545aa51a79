theorem Rel.scr {m : Nat} {F G : Nat → Nat → Int32} {L : Nat → Nat → Option Nat} {T : Nat → Nat} (h : Rel m F L T) (e : ∀ p, (p = 3 ∨ p = 22 ∨ 23 ≤ p ∧ p ≤ 48 ∨ 50 ≤ p ∧ p ≤ 52 ∨ p = 55 ∨ 59 ≤ p) → G p = F p) (hc : CurR m G L T) (e7 : G 0 7 = G 49 9) (e8 : G 0 8 = G 49 1) (t1 : G 2 1 = F 2 1) (t2 : G 49 8 = F 49 8) (a1 : G 21 0 = F 21 0) (a2 : G 49 30 = F 49 30) : Rel m G L T := by
  obtain ⟨h1, h2, h3, h4, h5, h6, h7⟩ := h
  exact ⟨h1.same (fun p hp => e p (by omega)), h2.same t1 t2 (e 55 (by omega)) (e 3 (by omega)), hc, h4.same (fun p hp => e p (by omega)), e7, e8, h7.same a1 a2 (e 22 (by omega)) (e 61 (by omega))⟩
/-- only x's and the reference's own fields have changed -/
theorem Rel.xm {m : Nat} {F G : Nat → Nat → Int32} {L : Nat → Nat → Option Nat} {T : Nat → Nat} (h : Rel m F L T) (e : ∀ p, p ≠ 0 → p ≠ 49 → G p = F p) (e7 : G 0 7 = G 49 9) (e8 : G 0 8 = G 49 1) (t2 : G 49 8 = F 49 8) (a2 : G 49 30 = F 49 30) : Rel m G L T :=
  h.scr (fun p hp => e p (by omega) (by omega)) (h.2.2.1.same (e 4 (by omega) (by omega)) (e 8 (by omega) (by omega)) (e 6 (by omega) (by omega)) (by rw [e 15 (by omega) (by omega)]; exact ⟨rfl, rfl, rfl, rfl⟩) (e 53 (by omega) (by omega)) (fun t ht => e t (by omega) (by omega))) e7 e8 (by rw [e 2 (by omega) (by omega)]) t2 (by rw [e 21 (by omega) (by omega)]) a2
theorem Rel.thr {m : Nat} {F : Nat → Nat → Int32} {L : Nat → Nat → Option Nat} {T : Nat → Nat} (h : Rel m F L T) (v : Int32) : Rel m (up2 F 49 0 v) L T :=
  h.xm (fun p _ hp => up2_ne hp) (by rw [up2_ne (by decide), up2_o (by decide)]; exact h.2.2.2.2.1) (by rw [up2_ne (by decide), up2_o (by decide)]; exact h.2.2.2.2.2.1) (up2_o (by decide)) (up2_o (by decide))
theorem X11_isRow_y {N : Nat} {A : hP} {r : Nat} (h : r < 8) : f_X11_isRow N A (nI r) = some (1, A) := by
  have h1 : ¬ nI r < 0 := nI_pos (by omega)
  have h2 : ¬ (8 : Int32) ≤ nI r := nI_ge (a := r) (b := 8) h (by omega)
  simp [f_X11_isRow, f_X11_isRow_0, f_X11_isRow_14, f_X11_isRow_15, h1, h2]
theorem X11_isRow_n {N : Nat} {A : hP} {r : Int32} (h : r < 0 ∨ nI 8 ≤ r) : f_X11_isRow N A r = some (0, A) := by
  rcases h with h | h
  · simp [f_X11_isRow, f_X11_isRow_0, f_X11_isRow_14, f_X11_isRow_15, h]
  · have h2 : (8 : Int32) ≤ r := h
    by_cases h1 : r < 0
    · simp [f_X11_isRow, f_X11_isRow_0, f_X11_isRow_14, f_X11_isRow_15, h1]
    · simp [f_X11_isRow, f_X11_isRow_0, f_X11_isRow_14, f_X11_isRow_15, h1, h2]
theorem i64_le (a b : Int32) : a.toInt64 ≤ b.toInt64 ↔ a ≤ b := by
  rw [Int64.le_iff_toInt_le, Int32.le_iff_toInt_le, Int32.toInt_toInt64, Int32.toInt_toInt64]
/-- the reference's 'in', of ints -/
theorem X12_in32 (N : Nat) (A : hP) (a b c : Int32) : f_X12_in N A a.toInt64 b.toInt64 c.toInt64 = some (bI (b ≤ a ∧ a ≤ c), A) := by
  rw [X12_in]
  simp only [i64_le]
theorem bI_t {p : Prop} [Decidable p] (h : p) : bI p = 1 := if_pos h
theorem bI_f {p : Prop} [Decidable p] (h : ¬ p) : bI p = 0 := if_neg h
theorem X12_isRow_y {N : Nat} {A : hP} {r : Nat} (h : r < 8) : f_X12_isRow N A (nI r) = some (1, A) := by
  have h1 : (0 : Int32) ≤ nI r ∧ nI r ≤ 7 := ⟨nI_pos' (by omega), nI_le (a := r) (b := 7) (by omega) (by omega)⟩
  have h2 := X12_in32 N A (nI r) 0 7
  rw [bI_t h1] at h2
  unfold f_X12_isRow f_X12_isRow_0
  rw [show (0 : Int64) = (0 : Int32).toInt64 from rfl, show (7 : Int64) = (7 : Int32).toInt64 from rfl, h2]
  rfl
theorem X12_isRow_n {N : Nat} {A : hP} {r : Int32} (h : r < 0 ∨ nI 8 ≤ r) : f_X12_isRow N A r = some (0, A) := by
  have h1 : ¬ ((0 : Int32) ≤ r ∧ r ≤ 7) := by
    intro q
    rcases h with h | h
    · exact absurd q.1 (Int32.not_le.mpr h)
    · rw [Int32.le_iff_toInt_le] at h
      have h3 := Int32.le_iff_toInt_le.mp q.2
      rw [nI_toInt (by decide)] at h
      have : (7 : Int32).toInt = 7 := by decide
      omega
  have h2 := X12_in32 N A r 0 7
  rw [bI_f h1] at h2
  unfold f_X12_isRow f_X12_isRow_0
  rw [show (0 : Int64) = (0 : Int32).toInt64 from rfl, show (7 : Int64) = (7 : Int32).toInt64 from rfl, h2]
  rfl
theorem o_fault (N : Nat) (hN : 5000 ≤ N) (m : Nat) (F : Nat → Nat → Int32) (L : Nat → Nat → Option Nat) (T : Nat → Nat) (hm : m ≤ 3000) (R : Rel m F L T) : OpOk (fun A => f_X11_fault N A (some 0) ) (fun A => f_X12_fault N A (some 49) ) m F L T := by
  refine ⟨F 0 7, m, F, L, T, up2 F 49 0 0, ?_, ?_, R.thr 0, by omega⟩
  · simp only [f_X11_fault, f_X11_fault_0, gI_0, gI_2, gI_4, gI_9, gI_15, gI_21, gI_49, gP_0, gP_2, gP_4, gP_9, gP_15, gP_21, gP_49, gR_0, gR_2, gR_4, gR_9, gR_15, gR_21, gR_49, gL_53, gL_54, oPz_0, oPz_1, Option.bind_some, c10, c01, cm1, c00, if_true, if_false, ne_eq, not_true_eq_false, not_false_eq_true]
  · simp only [f_X12_fault, f_X12_fault_0, gI_0, gI_2, gI_4, gI_9, gI_15, gI_21, gI_49, gP_0, gP_2, gP_4, gP_9, gP_15, gP_21, gP_49, gR_0, gR_2, gR_4, gR_9, gR_15, gR_21, gR_49, gL_53, gL_54, oPz_0, oPz_1, Option.bind_some, c10, c01, cm1, c00, if_true, if_false, ne_eq, not_true_eq_false, not_false_eq_true]
    rw [up2_o (by decide), R.2.2.2.2.1]
theorem o_status (N : Nat) (hN : 5000 ≤ N) (m : Nat) (F : Nat → Nat → Int32) (L : Nat → Nat → Option Nat) (T : Nat → Nat) (hm : m ≤ 3000) (R : Rel m F L T) : OpOk (fun A => f_X11_status N A (some 0) ) (fun A => f_X12_status N A (some 49) ) m F L T := by
  refine ⟨F 0 8, m, F, L, T, up2 F 49 0 0, ?_, ?_, R.thr 0, by omega⟩
  · simp only [f_X11_status, f_X11_status_0, gI_0, gI_2, gI_4, gI_9, gI_15, gI_21, gI_49, gP_0, gP_2, gP_4, gP_9, gP_15, gP_21, gP_49, gR_0, gR_2, gR_4, gR_9, gR_15, gR_21, gR_49, gL_53, gL_54, oPz_0, oPz_1, Option.bind_some, c10, c01, cm1, c00, if_true, if_false, ne_eq, not_true_eq_false, not_false_eq_true]
  · simp only [f_X12_status, f_X12_status_0, gI_0, gI_2, gI_4, gI_9, gI_15, gI_21, gI_49, gP_0, gP_2, gP_4, gP_9, gP_15, gP_21, gP_49, gR_0, gR_2, gR_4, gR_9, gR_15, gR_21, gR_49, gL_53, gL_54, oPz_0, oPz_1, Option.bind_some, c10, c01, cm1, c00, if_true, if_false, ne_eq, not_true_eq_false, not_false_eq_true]
    rw [up2_o (by decide), R.2.2.2.2.2.1]
