theorem in_y {j n : Nat} (h : j < n) (hn : n < 2 ^ 30) : (0 : Int32) ≤ nI j ∧ nI j ≤ nI n - 1 := by
  refine ⟨nI_pos' (by omega), ?_⟩
  rw [Int32.le_iff_toInt_le, nI_toInt (by omega), show nI n - 1 = nI n - nI 1 from rfl, pk_sub_toInt (by omega) (by omega)]
  omega
theorem in_n {b : Int32} {n : Nat} (h : b < 0 ∨ nI n ≤ b) (hn : n < 2 ^ 30) : ¬ ((0 : Int32) ≤ b ∧ b ≤ nI n - 1) := by
  intro q
  rcases h with h | h
  · exact absurd q.1 (Int32.not_le.mpr h)
  · have h1 := Int32.le_iff_toInt_le.mp h
    have h2 := Int32.le_iff_toInt_le.mp q.2
    rw [nI_toInt (by omega)] at h1
    rw [show nI n - 1 = nI n - nI 1 from rfl, pk_sub_toInt (by omega) (by omega)] at h2
    omega
theorem X12_in_y {N : Nat} {A : hP} {j n : Nat} (h : j < n) (hn : n < 2 ^ 30) : f_X12_in N A (nI j).toInt64 0 (nI n - 1).toInt64 = some (1, A) := by
  have h2 := X12_in32 N A (nI j) 0 (nI n - 1)
  rw [bI_t (in_y h hn)] at h2
  exact h2
theorem X12_in_n {N : Nat} {A : hP} {b : Int32} {n : Nat} (h : b < 0 ∨ nI n ≤ b) (hn : n < 2 ^ 30) : f_X12_in N A b.toInt64 0 (nI n - 1).toInt64 = some (0, A) := by
  have h2 := X12_in32 N A b 0 (nI n - 1)
  rw [bI_f (in_n h hn)] at h2
  exact h2
theorem ix40 (r j : Nat) : (40 : Int32) * nI r + nI j = nI (40 * r + j) := by
  rw [show (40 : Int32) = nI 40 from rfl, pk_mul, nI_add]
def cutV (l v : Int32) : Int32 := if l = 0 then v.toInt8.toInt32 else if l = 1 then v.toInt16.toInt32 else v
theorem X3_cut {N m r : Nat} {F : Nat → Nat → Int32} {L : Nat → Nat → Option Nat} {T : Nat → Nat} (hr : r < 8) (v : Int32) : f_X3_cut N (Hp m F L T) (some (23 + 2 * r)) v = some (cutV (F (23 + 2 * r) 1) v, Hp m F L T) := by
  simp only [f_X3_cut, f_X3_cut_0, gI_r1 hr, Option.bind_some]
  unfold cutV
  split
  · rfl
  · split <;> rfl
theorem o_set (N : Nat) (hN : 5000 ≤ N) (m : Nat) (F : Nat → Nat → Int32) (L : Nat → Nat → Option Nat) (T : Nat → Nat) (hm : m ≤ 3000) (R : Rel m F L T) (a b c : Int32) : OpOk (fun A => f_X11_set N A (some 0) a b c) (fun A => f_X12_set N A (some 49) a b c) m F L T := by
  have bad : (a < 0 ∨ nI 8 ≤ a) → OpOk (fun A => f_X11_set N A (some 0) a b c) (fun A => f_X12_set N A (some 49) a b c) m F L T := by
    intro h
    refine ⟨-1000001, m, F, L, T, up2 F 49 0 0, ?_, ?_, R.thr 0, by omega⟩
    · simp only [f_X11_set, f_X11_set_0, X11_isRow_n h, gI_0, gI_2, gI_4, gI_9, gI_15, gI_21, gI_49, gP_0, gP_2, gP_4, gP_9, gP_15, gP_21, gP_49, gR_0, gR_2, gR_4, gR_9, gR_15, gR_21, gR_49, gL_53, gL_54, oPz_0, oPz_1, Option.bind_some, c10, c01, cm1, c00, if_true, if_false, ne_eq, not_true_eq_false, not_false_eq_true]
    · simp only [f_X12_set, f_X12_set_0, X12_isRow_n h, gI_0, gI_2, gI_4, gI_9, gI_15, gI_21, gI_49, gP_0, gP_2, gP_4, gP_9, gP_15, gP_21, gP_49, gR_0, gR_2, gR_4, gR_9, gR_15, gR_21, gR_49, gL_53, gL_54, oPz_0, oPz_1, Option.bind_some, c10, c01, cm1, c00, if_true, if_false, ne_eq, not_true_eq_false, not_false_eq_true]
  rcases pk_ix a (n := 8) (by decide) with h | h | ⟨r, hr, rfl⟩
  · exact bad (Or.inl h)
  · exact bad (Or.inr h)
  obtain ⟨h1, h2, ⟨n, hn, h3⟩, h4⟩ := R.1 r hr
  have h3' : F (23 + 2 * r) 2 = nI n := h2.symm.trans h3
  rcases h1 with ⟨h5, h6⟩ | ⟨h5, h6, h7⟩
  · refine ⟨-1000011, m, up2 F 0 8 1, L, T, _, ?_, ?_, R.fnd 1, by omega⟩
    · simp only [f_X11_set, f_X11_set_0, X11_isRow_y hr, gN_1 hr, gI_r0 hr, h5, f_X11_found, f_X11_found_0, gI_0, gI_2, gI_4, gI_9, gI_15, gI_21, gI_49, gP_0, gP_2, gP_4, gP_9, gP_15, gP_21, gP_49, gR_0, gR_2, gR_4, gR_9, gR_15, gR_21, gR_49, gL_53, gL_54, oPz_0, oPz_1, Option.bind_some, c10, c01, cm1, c00, if_true, if_false, ne_eq, not_true_eq_false, not_false_eq_true]
      rfl
    · have e1 : up2 (up2 (up2 F 0 8 1) 49 0 0) 49 1 0 50 r = -1 := by simp (disch := omega) only [up2_ne, up2_o, up2_s]; exact h6
      simp only [f_X12_set, f_X12_set_0, X12_isRow_y hr, (gN_50 hr).1, e1, f_X12_finding, f_X12_finding_0, gI_0, gI_2, gI_4, gI_9, gI_15, gI_21, gI_49, gP_0, gP_2, gP_4, gP_9, gP_15, gP_21, gP_49, gR_0, gR_2, gR_4, gR_9, gR_15, gR_21, gR_49, gL_53, gL_54, oPz_0, oPz_1, Option.bind_some, c10, c01, cm1, c00, if_true, if_false, ne_eq, not_true_eq_false, not_false_eq_true]
      rfl
  have h5' : F (23 + 2 * r) 0 = 1 := h5
  have lane : ((0 : Int32) ≤ F 50 r) = True := eq_true (by rcases h7 with h | h | h <;> rw [h] <;> decide)
  have out : (b < 0 ∨ nI n ≤ b) → OpOk (fun A => f_X11_set N A (some 0) (nI r) b c) (fun A => f_X12_set N A (some 49) (nI r) b c) m F L T := by
    intro hb
    refine ⟨-1000012, m, up2 F 0 8 2, L, T, _, ?_, ?_, R.fnd 2, by omega⟩
    · by_cases hb0 : b < 0
      · simp only [f_X11_set, f_X11_set_0, X11_isRow_y hr, gN_1 hr, gI_r0 hr, h5, hb0, f_X11_set_45, f_X11_found, f_X11_found_0, gI_0, gI_2, gI_4, gI_9, gI_15, gI_21, gI_49, gP_0, gP_2, gP_4, gP_9, gP_15, gP_21, gP_49, gR_0, gR_2, gR_4, gR_9, gR_15, gR_21, gR_49, gL_53, gL_54, oPz_0, oPz_1, Option.bind_some, c10, c01, cm1, c00, if_true, if_false, ne_eq, not_true_eq_false, not_false_eq_true]
        rfl
      · have hb1 : ¬ b < nI n := by
          rcases hb with hb | hb
          · exact absurd hb hb0
          · exact Int32.not_lt.mpr hb
        simp only [f_X11_set, f_X11_set_0, X11_isRow_y hr, gN_1 hr, gI_r0 hr, gI_r2 hr, h3', h5, hb0, hb1, f_X11_set_45, f_X11_found, f_X11_found_0, gI_0, gI_2, gI_4, gI_9, gI_15, gI_21, gI_49, gP_0, gP_2, gP_4, gP_9, gP_15, gP_21, gP_49, gR_0, gR_2, gR_4, gR_9, gR_15, gR_21, gR_49, gL_53, gL_54, oPz_0, oPz_1, Option.bind_some, c10, c01, cm1, c00, if_true, if_false, ne_eq, not_true_eq_false, not_false_eq_true]
        rfl
    · have e1 : up2 (up2 (up2 F 0 8 2) 49 0 0) 49 1 0 50 r = F 50 r := by simp (disch := omega) only [up2_ne, up2_o, up2_s]
      have e2 : up2 (up2 (up2 F 0 8 2) 49 0 0) 49 1 0 51 r = nI n := by simp (disch := omega) only [up2_ne, up2_o, up2_s]; exact h3
      simp only [f_X12_set, f_X12_set_0, X12_isRow_y hr, (gN_50 hr).1, (gN_51 hr).1, e1, e2, lane, X12_in_n hb (show n < 2 ^ 30 by omega), f_X12_finding, f_X12_finding_0, gI_0, gI_2, gI_4, gI_9, gI_15, gI_21, gI_49, gP_0, gP_2, gP_4, gP_9, gP_15, gP_21, gP_49, gR_0, gR_2, gR_4, gR_9, gR_15, gR_21, gR_49, gL_53, gL_54, oPz_0, oPz_1, Option.bind_some, c10, c01, cm1, c00, if_true, if_false, ne_eq, not_true_eq_false, not_false_eq_true]
      rfl
  rcases pk_ix b (n := n) (by omega) with h | h | ⟨j, hj, rfl⟩
  · exact out (Or.inl h)
  · exact out (Or.inr h)
  have hj40 : j < 40 := by omega
  refine ⟨cutV (F 50 r) c, m, up2 (up2 F (24 + 2 * r) j (cutV (F 50 r) c)) 0 8 0, L, T, up2 (up2 (up2 (up2 (up2 F (24 + 2 * r) j (cutV (F 50 r) c)) 0 8 0) 49 0 0) 49 1 0) 52 (40 * r + j) (cutV (F 50 r) c), ?_, ?_, ?_, by omega⟩
  · have b0 : ¬ nI j < 0 := nI_pos (by omega)
    have b1 : nI j < nI n := nI_lt hj (by omega)
    simp only [f_X11_set, f_X11_set_0, X11_isRow_y hr, gN_1 hr, gI_r0 hr, gI_r2 hr, gR_r hr, h3', h5, b0, b1, X3_cut hr, (gN_r hr hj40).1, (gN_r hr hj40).2, f_X11_passed, f_X11_passed_0, ← h6, up2_s, gI_0, gI_2, gI_4, gI_9, gI_15, gI_21, gI_49, gP_0, gP_2, gP_4, gP_9, gP_15, gP_21, gP_49, gR_0, gR_2, gR_4, gR_9, gR_15, gR_21, gR_49, gL_53, gL_54, oPz_0, oPz_1, Option.bind_some, c10, c01, cm1, c00, if_true, if_false, ne_eq, not_true_eq_false, not_false_eq_true]
  · have e1 : up2 (up2 (up2 (up2 F (24 + 2 * r) j (cutV (F 50 r) c)) 0 8 0) 49 0 0) 49 1 0 50 r = F 50 r := by simp (disch := omega) only [up2_ne, up2_o, up2_s]
    have e2 : up2 (up2 (up2 (up2 F (24 + 2 * r) j (cutV (F 50 r) c)) 0 8 0) 49 0 0) 49 1 0 51 r = nI n := by simp (disch := omega) only [up2_ne, up2_o, up2_s]; exact h3
    have hi : 40 * r + j < 320 := by omega
    simp only [f_X12_set, f_X12_set_0, X12_isRow_y hr, (gN_50 hr).1, (gN_51 hr).1, e1, e2, lane, X12_in_y hj (show n < 2 ^ 30 by omega), ix40, gI_0, gI_2, gI_4, gI_9, gI_15, gI_21, gI_49, gP_0, gP_2, gP_4, gP_9, gP_15, gP_21, gP_49, gR_0, gR_2, gR_4, gR_9, gR_15, gR_21, gR_49, gL_53, gL_54, oPz_0, oPz_1, Option.bind_some, c10, c01, cm1, c00, if_true, if_false, ne_eq, not_true_eq_false, not_false_eq_true]
    unfold cutV
    by_cases l0 : F 50 r = 0
    · simp only [l0, f_X12_set_99, ix40, (gN_52 hi).1, (gN_52 hi).2, up2_s, gI_0, gI_2, gI_4, gI_9, gI_15, gI_21, gI_49, gP_0, gP_2, gP_4, gP_9, gP_15, gP_21, gP_49, gR_0, gR_2, gR_4, gR_9, gR_15, gR_21, gR_49, gL_53, gL_54, oPz_0, oPz_1, Option.bind_some, c10, c01, cm1, c00, if_true, if_false, ne_eq, not_true_eq_false, not_false_eq_true]
    · by_cases l1 : F 50 r = 1
      · simp only [l0, l1, f_X12_set_99, ix40, (gN_52 hi).1, (gN_52 hi).2, up2_s, gI_0, gI_2, gI_4, gI_9, gI_15, gI_21, gI_49, gP_0, gP_2, gP_4, gP_9, gP_15, gP_21, gP_49, gR_0, gR_2, gR_4, gR_9, gR_15, gR_21, gR_49, gL_53, gL_54, oPz_0, oPz_1, Option.bind_some, c10, c01, cm1, c00, if_true, if_false, ne_eq, not_true_eq_false, not_false_eq_true]
      · simp only [l0, l1, f_X12_set_99, ix40, (gN_52 hi).1, (gN_52 hi).2, up2_s, gI_0, gI_2, gI_4, gI_9, gI_15, gI_21, gI_49, gP_0, gP_2, gP_4, gP_9, gP_15, gP_21, gP_49, gR_0, gR_2, gR_4, gR_9, gR_15, gR_21, gR_49, gL_53, gL_54, oPz_0, oPz_1, Option.bind_some, c10, c01, cm1, c00, if_true, if_false, ne_eq, not_true_eq_false, not_false_eq_true]
  · generalize cutV (F 50 r) c = v
    refine R.rows (R.1.one hr (fun q hq hqr => ?_) ?_) (fun p h0 h41 hp hp2 => ?_) ?_ ?_ ?_ ?_
    · refine ⟨by simp (disch := omega) only [up2_ne, up2_o, up2_s], by simp (disch := omega) only [up2_ne, up2_o, up2_s], by simp (disch := omega) only [up2_ne, up2_o, up2_s], by simp (disch := omega) only [up2_ne, up2_o, up2_s], fun i hi => by simp (disch := omega) only [up2_ne, up2_o, up2_s]⟩
    · have f1 : up2 (up2 (up2 (up2 (up2 F (24 + 2 * r) j v) 0 8 0) 49 0 0) 49 1 0) 52 (40 * r + j) v (23 + 2 * r) = F (23 + 2 * r) := by simp (disch := omega) only [up2_ne, up2_o, up2_s]
      have f2 : up2 (up2 (up2 (up2 (up2 F (24 + 2 * r) j v) 0 8 0) 49 0 0) 49 1 0) 52 (40 * r + j) v (24 + 2 * r) = up2 F (24 + 2 * r) j v (24 + 2 * r) := by simp (disch := omega) only [up2_ne, up2_o, up2_s]
      have f3 : up2 (up2 (up2 (up2 (up2 F (24 + 2 * r) j v) 0 8 0) 49 0 0) 49 1 0) 52 (40 * r + j) v 51 = F 51 := by simp (disch := omega) only [up2_ne, up2_o, up2_s]
      have f4 : up2 (up2 (up2 (up2 (up2 F (24 + 2 * r) j v) 0 8 0) 49 0 0) 49 1 0) 52 (40 * r + j) v 50 = F 50 := by simp (disch := omega) only [up2_ne, up2_o, up2_s]
      rw [f1, f2, f3, f4]
      refine ⟨Or.inr ⟨h5', h6, h7⟩, h2, ⟨n, hn, h3⟩, fun i hi => ?_⟩
      by_cases hij : i = j
      · subst hij; rw [up2_s, up2_s]
      · rw [up2_o hij, up2_o (by omega)]
        have f5 : up2 (up2 (up2 (up2 F (24 + 2 * r) j v) 0 8 0) 49 0 0) 49 1 0 52 = F 52 := by simp (disch := omega) only [up2_ne, up2_o, up2_s]
        rw [f5]; exact h4 i hi
    · simp (disch := omega) only [up2_ne, up2_o, up2_s]
    · have := R.2.2.2.2.1; simp (disch := omega) only [up2_ne, up2_o, up2_s]; exact this
    · simp (disch := omega) only [up2_ne, up2_o, up2_s]
    · simp (disch := omega) only [up2_ne, up2_o, up2_s]
    · simp (disch := omega) only [up2_ne, up2_o, up2_s]
