section THr
variable {N m : Nat} {F : Nat → Nat → Int32} {L : Nat → Nat → Option Nat} {T : Nat → Nat} {P S : Nat → Nat} {D : Nat}
theorem M_there_n (h2 : F 53 2 = nI (P 2)) (h : P 2 = 0) : f_X12_isThere N (Hp m F L T) (some 49) = some (0, Hp m F L T) := by
  rw [h] at h2
  simp only [f_X12_isThere, f_X12_isThere_0, f_X12_isThere_14, h2, show nI 0 ≤ 0 by decide, true_or, gI_0, gI_2, gI_4, gI_9, gI_15, gI_21, gI_49, gP_0, gP_2, gP_4, gP_9, gP_15, gP_21, gP_49, gR_0, gR_2, gR_4, gR_9, gR_15, gR_21, gR_49, gL_53, gL_54, oPz_0, oPz_1, Option.bind_some, c10, c01, cm1, c00, if_true, if_false, ne_eq, not_true_eq_false, not_false_eq_true]
theorem M_there_y (h2 : F 53 2 = nI (P 2)) (h : P 2 ≠ 0) (hv : P 2 ≤ 200) : f_X12_isThere N (Hp m F L T) (some 49) = some (1, Hp m F L T) := by
  simp only [f_X12_isThere, f_X12_isThere_0, f_X12_isThere_14, h2, show ¬ nI (P 2) ≤ 0 from nI_nle (by omega) (by omega), or_true, gI_0, gI_2, gI_4, gI_9, gI_15, gI_21, gI_49, gP_0, gP_2, gP_4, gP_9, gP_15, gP_21, gP_49, gR_0, gR_2, gR_4, gR_9, gR_15, gR_21, gR_49, gL_53, gL_54, oPz_0, oPz_1, Option.bind_some, c10, c01, cm1, c00, if_true, if_false, ne_eq, not_true_eq_false, not_false_eq_true]
theorem all_e {n : Nat} (h : n ≤ 4) : (1 : Int32) <<< (nI n &&& 31) - 1 = nI (2 ^ n - 1) := by
  rw [shl1 (by omega)]
  exact pk_sub (a := 2 ^ n) (b := 1) (Nat.one_le_two_pow)
theorem C_can_n {b : Int32} (h3 : P 3 ≤ 4) (h4 : F 4 4 = nI (P 3)) (h : b < 0 ∨ nI (2 ^ P 3) ≤ b) : f_X2_canLay N (Hp m F L T) (some 4) b = some (0, Hp m F L T) := by
  by_cases hb : b < 0
  · simp only [f_X2_canLay, f_X2_canLay_0, f_X2_canLay_16, f_X2_canLay_17, hb, true_or, gI_0, gI_2, gI_4, gI_9, gI_15, gI_21, gI_49, gP_0, gP_2, gP_4, gP_9, gP_15, gP_21, gP_49, gR_0, gR_2, gR_4, gR_9, gR_15, gR_21, gR_49, gL_53, gL_54, oPz_0, oPz_1, Option.bind_some, c10, c01, cm1, c00, if_true, if_false, ne_eq, not_true_eq_false, not_false_eq_true]
  · have hb2 : nI (2 ^ P 3) ≤ b := by rcases h with h | h; exact absurd h hb; exact h
    have := pw16 h3
    have hb3 : nI (2 ^ P 3 - 1) < b := by
      have h1 := Int32.le_iff_toInt_le.mp hb2
      rw [nI_toInt (by omega)] at h1
      rw [Int32.lt_iff_toInt_lt, nI_toInt (by omega)]
      have := Nat.one_le_two_pow (n := P 3)
      omega
    simp only [f_X2_canLay, f_X2_canLay_0, f_X2_canLay_16, f_X2_canLay_17, f_X2_allThings, f_X2_allThings_0, hb, h4, all_e h3, hb3, true_or, gI_0, gI_2, gI_4, gI_9, gI_15, gI_21, gI_49, gP_0, gP_2, gP_4, gP_9, gP_15, gP_21, gP_49, gR_0, gR_2, gR_4, gR_9, gR_15, gR_21, gR_49, gL_53, gL_54, oPz_0, oPz_1, Option.bind_some, c10, c01, cm1, c00, if_true, if_false, ne_eq, not_true_eq_false, not_false_eq_true]
theorem C_can_y {x : Nat} (h3 : P 3 ≤ 4) (h4 : F 4 4 = nI (P 3)) (h : x < 2 ^ P 3) : f_X2_canLay N (Hp m F L T) (some 4) (nI x) = some (1, Hp m F L T) := by
  have := pw16 h3
  have h1 : ¬ nI x < 0 := nI_pos (by omega)
  have h2 : ¬ nI (2 ^ P 3 - 1) < nI x := nI_nlt (by omega) (by omega)
  simp only [f_X2_canLay, f_X2_canLay_0, f_X2_canLay_16, f_X2_canLay_17, f_X2_allThings, f_X2_allThings_0, h1, h4, all_e h3, h2, or_true, gI_0, gI_2, gI_4, gI_9, gI_15, gI_21, gI_49, gP_0, gP_2, gP_4, gP_9, gP_15, gP_21, gP_49, gR_0, gR_2, gR_4, gR_9, gR_15, gR_21, gR_49, gL_53, gL_54, oPz_0, oPz_1, Option.bind_some, c10, c01, cm1, c00, if_true, if_false, ne_eq, not_true_eq_false, not_false_eq_true]
theorem M_set_n {b : Int32} (h3 : P 3 ≤ 4) (h4 : F 53 3 = nI (P 3)) (h : b < 0 ∨ nI (2 ^ P 3) ≤ b) : f_X12_isSet N (Hp m F L T) (some 49) b = some (0, Hp m F L T) := by
  have := pw16 h3
  simp only [f_X12_isSet, f_X12_isSet_0, h4, shl1 (show P 3 < 32 by omega), X12_in_n h (show 2 ^ P 3 < 2 ^ 30 by omega), true_or, gI_0, gI_2, gI_4, gI_9, gI_15, gI_21, gI_49, gP_0, gP_2, gP_4, gP_9, gP_15, gP_21, gP_49, gR_0, gR_2, gR_4, gR_9, gR_15, gR_21, gR_49, gL_53, gL_54, oPz_0, oPz_1, Option.bind_some, c10, c01, cm1, c00, if_true, if_false, ne_eq, not_true_eq_false, not_false_eq_true]
theorem M_set_y {x : Nat} (h3 : P 3 ≤ 4) (h4 : F 53 3 = nI (P 3)) (h : x < 2 ^ P 3) : f_X12_isSet N (Hp m F L T) (some 49) (nI x) = some (1, Hp m F L T) := by
  have := pw16 h3
  simp only [f_X12_isSet, f_X12_isSet_0, h4, shl1 (show P 3 < 32 by omega), X12_in_y h (show 2 ^ P 3 < 2 ^ 30 by omega), or_true, gI_0, gI_2, gI_4, gI_9, gI_15, gI_21, gI_49, gP_0, gP_2, gP_4, gP_9, gP_15, gP_21, gP_49, gR_0, gR_2, gR_4, gR_9, gR_15, gR_21, gR_49, gL_53, gL_54, oPz_0, oPz_1, Option.bind_some, c10, c01, cm1, c00, if_true, if_false, ne_eq, not_true_eq_false, not_false_eq_true]
end THr
theorem o_next (N : Nat) (hN : 5000 ≤ N) (m : Nat) (F : Nat → Nat → Int32) (L : Nat → Nat → Option Nat) (T : Nat → Nat) (hm : m ≤ 3000) (R : Rel m F L T) (a : Int32) : OpOk (fun A => f_X11_next N A (some 0) a) (fun A => f_X12_next N A (some 49) a) m F L T := by
  obtain ⟨P, pv, pm, pc, sr⟩ := R.2.2.1
  have v2 : P 2 ≤ 200 := pv.2.2.1
  have v3 : P 3 ≤ 4 := pv.2.2.2.1
  have v4 : P 4 ≤ 24 := pv.2.2.2.2.1
  have c0 := pc.1
  have c4 : F 4 4 = nI (P 3) := pc.2.2.2.2.1
  have c5 : F 4 5 = nI (P 4) := pc.2.2.2.2.2.1
  have m2 : up2 F 49 0 0 53 2 = nI (P 2) := by simp (disch := omega) only [up2_ne, up2_o, up2_s]; exact pm.1 2 (by omega)
  have m3 : up2 F 49 0 0 53 3 = nI (P 3) := by simp (disch := omega) only [up2_ne, up2_o, up2_s]; exact pm.1 3 (by omega)
  by_cases hp2 : P 2 = 0
  · rw [if_pos hp2] at c0
    refine ⟨-1000002, m, F, L, T, up2 F 49 0 0, ?_, ?_, R.thr 0, by omega⟩
    · simp only [f_X11_next, f_X11_next_0, c0, gI_0, gI_2, gI_4, gI_9, gI_15, gI_21, gI_49, gP_0, gP_2, gP_4, gP_9, gP_15, gP_21, gP_49, gR_0, gR_2, gR_4, gR_9, gR_15, gR_21, gR_49, gL_53, gL_54, oPz_0, oPz_1, Option.bind_some, c10, c01, cm1, c00, if_true, if_false, ne_eq, not_true_eq_false, not_false_eq_true]
    · simp only [f_X12_next, f_X12_next_0, M_there_n m2 hp2, gI_0, gI_2, gI_4, gI_9, gI_15, gI_21, gI_49, gP_0, gP_2, gP_4, gP_9, gP_15, gP_21, gP_49, gR_0, gR_2, gR_4, gR_9, gR_15, gR_21, gR_49, gL_53, gL_54, oPz_0, oPz_1, Option.bind_some, c10, c01, cm1, c00, if_true, if_false, ne_eq, not_true_eq_false, not_false_eq_true]
  rw [if_neg hp2] at c0
  have bad : (a < 0 ∨ nI (2 ^ P 3) ≤ a) → OpOk (fun A => f_X11_next N A (some 0) a) (fun A => f_X12_next N A (some 49) a) m F L T := by
    intro h
    refine ⟨-1000001, m, F, L, T, up2 F 49 0 0, ?_, ?_, R.thr 0, by omega⟩
    · simp only [f_X11_next, f_X11_next_0, c0, C_can_n v3 c4 h, gI_0, gI_2, gI_4, gI_9, gI_15, gI_21, gI_49, gP_0, gP_2, gP_4, gP_9, gP_15, gP_21, gP_49, gR_0, gR_2, gR_4, gR_9, gR_15, gR_21, gR_49, gL_53, gL_54, oPz_0, oPz_1, Option.bind_some, c10, c01, cm1, c00, if_true, if_false, ne_eq, not_true_eq_false, not_false_eq_true]
    · simp only [f_X12_next, f_X12_next_0, M_there_y m2 hp2 v2, M_set_n v3 m3 h, gI_0, gI_2, gI_4, gI_9, gI_15, gI_21, gI_49, gP_0, gP_2, gP_4, gP_9, gP_15, gP_21, gP_49, gR_0, gR_2, gR_4, gR_9, gR_15, gR_21, gR_49, gL_53, gL_54, oPz_0, oPz_1, Option.bind_some, c10, c01, cm1, c00, if_true, if_false, ne_eq, not_true_eq_false, not_false_eq_true]
  have hp := pw16 v3
  rcases pk_ix a (n := 2 ^ P 3) (by omega) with h | h | ⟨x, hx, rfl⟩
  · exact bad (Or.inl h)
  · exact bad (Or.inr h)
  clear bad
  generalize hF1 : up2 F 8 (P 4) (nI x) = F1
  have f4 : F1 4 = F 4 := by rw [← hF1]; simp (disch := omega) only [up2_ne, up2_o, up2_s]
  have fn : ∀ p, p ≠ 8 → F1 p = F p := fun p h => by rw [← hF1]; simp (disch := omega) only [up2_ne, up2_o, up2_s]
  have f6 : ∀ j, j ≠ P 4 → F1 8 j = F 8 j := fun j h => by rw [← hF1]; simp (disch := omega) only [up2_ne, up2_o, up2_s]
  have f66 : F1 8 (P 4) = nI x := by rw [← hF1]; simp (disch := omega) only [up2_ne, up2_o, up2_s]
  have cv : CV m F1 L T P (S1 P x) (P 4 + 1) := by
    have c := CV_of pv (pc.same f4 (fun t ht => fn t (by omega)) (fun j hj => f6 j (by omega)) (fn 6 (by omega)))
    obtain ⟨a1, a2, a3, a4, a5, a6, a7, a8, a9, a10, a11, a12, a13⟩ := c
    refine ⟨a1, a2, a3, a4, a5, a6, a7, a8, a9, a10, a11, fun d hd => ?_, by omega⟩
    unfold S1
    by_cases h : d = P 4
    · rw [if_pos h, h]; exact ⟨f66, by omega⟩
    · rw [if_neg h]; exact a12 d (by omega)
  generalize hM1 : up2 (up2 F1 49 0 0) 53 (13 + P 4) (nI x) = M1
  have g45 : ∀ j, j ≠ 13 + P 4 → M1 53 j = F 53 j := fun j h => by rw [← hM1]; simp (disch := omega) only [up2_ne, up2_o, up2_s]; rw [fn 53 (by decide)]
  have g455 : M1 53 (13 + P 4) = nI x := by rw [← hM1]; simp (disch := omega) only [up2_ne, up2_o, up2_s]
  have mv : MV M1 P (S1 P x) (P 4 + 1) := by
    obtain ⟨a1, a2, a3, a4, a5, a6, a7, a8⟩ := MV_of pv pm
    refine ⟨a1, a2, a3, by rw [g45 2 (by omega)]; exact a4, by rw [g45 3 (by omega)]; exact a5, fun i hi => by rw [g45 _ (by omega)]; exact a6 i hi, fun d hd => ?_, by omega⟩
    unfold S1
    by_cases h : d = P 4
    · rw [if_pos h, h]; exact ⟨g455, by omega⟩
    · rw [if_neg h, g45 _ (by omega)]; exact a7 d (by omega)
  obtain ⟨G, g1, g2, g3⟩ := M_truly (N := N) (m := m) (F := M1) (L := L) (T := T) hN pv (by rw [g45 0 (by omega)]; exact pm.1 0 (by omega)) (by rw [g45 1 (by omega)]; exact pm.1 1 (by omega)) (by rw [g45 3 (by omega)]; exact pm.1 3 (by omega)) (fun i hi => by rw [g45 _ (by omega)]; exact (pm.2.1 i hi).2)
  have gg : G 53 = M1 53 := g2.1 53 (by decide) (by decide)
  have g4 : G 53 4 = nI (P 4) := by rw [gg, g45 4 (by omega)]; exact pm.1 4 (by omega)
  refine ⟨nI (shT P (S1 P x) (P 4)), m, F1, L, T, G, ?_, ?_, ?_, by omega⟩
  · simp only [f_X11_next, f_X11_next_0, c0, C_can_y v3 c4 hx, c5, (gN_8 (show P 4 < 26 by omega)).2, hF1, f4, C_shownOn hN cv (show P 4 < P 4 + 1 by omega), gI_0, gI_2, gI_4, gI_9, gI_15, gI_21, gI_49, gP_0, gP_2, gP_4, gP_9, gP_15, gP_21, gP_49, gR_0, gR_2, gR_4, gR_9, gR_15, gR_21, gR_49, gL_53, gL_54, oPz_0, oPz_1, Option.bind_some, c10, c01, cm1, c00, if_true, if_false, ne_eq, not_true_eq_false, not_false_eq_true]
  · have e2 : up2 F1 49 0 0 53 2 = nI (P 2) := by simp (disch := omega) only [up2_ne, up2_o, up2_s]; rw [fn 53 (by decide)]; exact pm.1 2 (by omega)
    have e3 : up2 F1 49 0 0 53 3 = nI (P 3) := by simp (disch := omega) only [up2_ne, up2_o, up2_s]; rw [fn 53 (by decide)]; exact pm.1 3 (by omega)
    have e4 : up2 F1 49 0 0 53 4 = nI (P 4) := by simp (disch := omega) only [up2_ne, up2_o, up2_s]; rw [fn 53 (by decide)]; exact pm.1 4 (by omega)
    simp only [f_X12_next, f_X12_next_0, M_there_y e2 hp2 v2, M_set_y v3 e3 hx, e4, ix13, (gN_53 (show 13 + P 4 < 39 by omega)).2, hM1, g1, g4, M_shows hN (mv.same gg) hp2 g3 (show P 4 < P 4 + 1 by omega), gI_0, gI_2, gI_4, gI_9, gI_15, gI_21, gI_49, gP_0, gP_2, gP_4, gP_9, gP_15, gP_21, gP_49, gR_0, gR_2, gR_4, gR_9, gR_15, gR_21, gR_49, gL_53, gL_54, oPz_0, oPz_1, Option.bind_some, c10, c01, cm1, c00, if_true, if_false, ne_eq, not_true_eq_false, not_false_eq_true]
    rfl
  · have gp : ∀ p, p ≠ 56 → p ≠ 49 → p ≠ 8 → p ≠ 53 → G p = F p := fun p p1 p2 p3 p4 => by rw [g2.1 p p1 p2, ← hM1]; simp (disch := omega) only [up2_ne, up2_o, up2_s]; exact fn p p3
    have gk : ∀ k, k ≠ 18 → k ≠ 19 → k ≠ 20 → k ≠ 0 → G 49 k = F 49 k := fun k k1 k2 k3 k4 => by rw [g2.2 k k1 k2 k3, ← hM1]; simp (disch := omega) only [up2_ne, up2_o, up2_s]; rw [fn 49 (by decide)]
    refine R.scr3 pv pm pc (sr.same (gp 15 (by decide) (by decide) (by decide) (by decide))) (fun p hp => gp p (by omega) (by omega) (by omega) (by omega)) (gp 4 (by decide) (by decide) (by decide) (by decide)) (fun j hj => ?_) (fun i hi => ?_) ?_ ?_ (by rw [gp 2 (by decide) (by decide) (by decide) (by decide)]) (gk 8 (by decide) (by decide) (by decide) (by decide)) (by rw [gp 21 (by decide) (by decide) (by decide) (by decide)]) (gk 30 (by decide) (by decide) (by decide) (by decide))
    · rw [g2.1 8 (by decide) (by decide), ← hM1]; simp (disch := omega) only [up2_ne, up2_o, up2_s]; exact f6 j (by omega)
    · rw [gg]; exact g45 i (by omega)
    · rw [gp 0 (by decide) (by decide) (by decide) (by decide), gk 9 (by decide) (by decide) (by decide) (by decide)]; exact R.2.2.2.2.1
    · rw [gp 0 (by decide) (by decide) (by decide) (by decide), gk 1 (by decide) (by decide) (by decide) (by decide)]; exact R.2.2.2.2.2.1
theorem o_day (N : Nat) (hN : 5000 ≤ N) (m : Nat) (F : Nat → Nat → Int32) (L : Nat → Nat → Option Nat) (T : Nat → Nat) (hm : m ≤ 3000) (R : Rel m F L T) (a : Int32) : OpOk (fun A => f_X11_day N A (some 0) a) (fun A => f_X12_day N A (some 49) a) m F L T := by
  obtain ⟨P, pv, pm, pc, sr⟩ := R.2.2.1
  have v2 : P 2 ≤ 200 := pv.2.2.1
  have v3 : P 3 ≤ 4 := pv.2.2.2.1
  have v4 : P 4 ≤ 24 := pv.2.2.2.2.1
  have c0 := pc.1
  have c4 : F 4 4 = nI (P 3) := pc.2.2.2.2.1
  have c5 : F 4 5 = nI (P 4) := pc.2.2.2.2.2.1
  have m2 : up2 F 49 0 0 53 2 = nI (P 2) := by simp (disch := omega) only [up2_ne, up2_o, up2_s]; exact pm.1 2 (by omega)
  have m3 : up2 F 49 0 0 53 3 = nI (P 3) := by simp (disch := omega) only [up2_ne, up2_o, up2_s]; exact pm.1 3 (by omega)
  by_cases hp2 : P 2 = 0
  · rw [if_pos hp2] at c0
    refine ⟨-1000002, m, F, L, T, up2 F 49 0 0, ?_, ?_, R.thr 0, by omega⟩
    · simp only [f_X11_day, f_X11_day_0, c0, gI_0, gI_2, gI_4, gI_9, gI_15, gI_21, gI_49, gP_0, gP_2, gP_4, gP_9, gP_15, gP_21, gP_49, gR_0, gR_2, gR_4, gR_9, gR_15, gR_21, gR_49, gL_53, gL_54, oPz_0, oPz_1, Option.bind_some, c10, c01, cm1, c00, if_true, if_false, ne_eq, not_true_eq_false, not_false_eq_true]
    · simp only [f_X12_day, f_X12_day_0, M_there_n m2 hp2, gI_0, gI_2, gI_4, gI_9, gI_15, gI_21, gI_49, gP_0, gP_2, gP_4, gP_9, gP_15, gP_21, gP_49, gR_0, gR_2, gR_4, gR_9, gR_15, gR_21, gR_49, gL_53, gL_54, oPz_0, oPz_1, Option.bind_some, c10, c01, cm1, c00, if_true, if_false, ne_eq, not_true_eq_false, not_false_eq_true]
  rw [if_neg hp2] at c0
  have bad : (a < 0 ∨ nI (2 ^ P 3) ≤ a) → OpOk (fun A => f_X11_day N A (some 0) a) (fun A => f_X12_day N A (some 49) a) m F L T := by
    intro h
    refine ⟨-1000001, m, F, L, T, up2 F 49 0 0, ?_, ?_, R.thr 0, by omega⟩
    · simp only [f_X11_day, f_X11_day_0, c0, C_can_n v3 c4 h, gI_0, gI_2, gI_4, gI_9, gI_15, gI_21, gI_49, gP_0, gP_2, gP_4, gP_9, gP_15, gP_21, gP_49, gR_0, gR_2, gR_4, gR_9, gR_15, gR_21, gR_49, gL_53, gL_54, oPz_0, oPz_1, Option.bind_some, c10, c01, cm1, c00, if_true, if_false, ne_eq, not_true_eq_false, not_false_eq_true]
    · simp only [f_X12_day, f_X12_day_0, M_there_y m2 hp2 v2, M_set_n v3 m3 h, gI_0, gI_2, gI_4, gI_9, gI_15, gI_21, gI_49, gP_0, gP_2, gP_4, gP_9, gP_15, gP_21, gP_49, gR_0, gR_2, gR_4, gR_9, gR_15, gR_21, gR_49, gL_53, gL_54, oPz_0, oPz_1, Option.bind_some, c10, c01, cm1, c00, if_true, if_false, ne_eq, not_true_eq_false, not_false_eq_true]
  have hp := pw16 v3
  rcases pk_ix a (n := 2 ^ P 3) (by omega) with h | h | ⟨x, hx, rfl⟩
  · exact bad (Or.inl h)
  · exact bad (Or.inr h)
  clear bad
  by_cases h24 : P 4 = 24
  · have m4 : up2 F 49 0 0 53 4 = 24 := by simp (disch := omega) only [up2_ne, up2_o, up2_s]; rw [pm.1 4 (by omega), h24]; rfl
    refine ⟨-1000003, m, F, L, T, up2 F 49 0 0, ?_, ?_, R.thr 0, by omega⟩
    · have e : ¬ nI (P 4) < 24 := nI_nlt (a := P 4) (b := 24) (by omega) (by omega)
      simp only [f_X11_day, f_X11_day_0, c0, C_can_y v3 c4 hx, c5, e, gI_0, gI_2, gI_4, gI_9, gI_15, gI_21, gI_49, gP_0, gP_2, gP_4, gP_9, gP_15, gP_21, gP_49, gR_0, gR_2, gR_4, gR_9, gR_15, gR_21, gR_49, gL_53, gL_54, oPz_0, oPz_1, Option.bind_some, c10, c01, cm1, c00, if_true, if_false, ne_eq, not_true_eq_false, not_false_eq_true]
    · simp only [f_X12_day, f_X12_day_0, M_there_y m2 hp2 v2, M_set_y v3 m3 hx, m4, gI_0, gI_2, gI_4, gI_9, gI_15, gI_21, gI_49, gP_0, gP_2, gP_4, gP_9, gP_15, gP_21, gP_49, gR_0, gR_2, gR_4, gR_9, gR_15, gR_21, gR_49, gL_53, gL_54, oPz_0, oPz_1, Option.bind_some, c10, c01, cm1, c00, if_true, if_false, ne_eq, not_true_eq_false, not_false_eq_true]
  generalize hF1 : up2 (up2 (up2 F 8 (P 4) (nI x)) 4 5 (nI (P 4 + 1))) 15 1 0 = F1
  have fn : ∀ p, p ≠ 8 → p ≠ 4 → p ≠ 15 → F1 p = F p := fun p h1 h2 h3 => by rw [← hF1]; simp (disch := omega) only [up2_ne, up2_o, up2_s]
  have f4 : ∀ k, k ≠ 5 → F1 4 k = F 4 k := fun k hk => by rw [← hF1]; simp (disch := omega) only [up2_ne, up2_o, up2_s]
  have f45 : F1 4 5 = nI (P 4 + 1) := by rw [← hF1]; simp (disch := omega) only [up2_ne, up2_o, up2_s]
  have f6 : ∀ j, j ≠ P 4 → F1 8 j = F 8 j := fun j h => by rw [← hF1]; simp (disch := omega) only [up2_ne, up2_o, up2_s]
  have f66 : F1 8 (P 4) = nI x := by rw [← hF1]; simp (disch := omega) only [up2_ne, up2_o, up2_s]
  have f11 : F1 15 1 = 0 := by rw [← hF1]; simp (disch := omega) only [up2_ne, up2_o, up2_s]
  generalize hQ : up (up P (13 + P 4) x) 4 (P 4 + 1) = Q
  have qn : ∀ k, k ≠ 4 → k ≠ 13 + P 4 → Q k = P k := fun k h1 h2 => by rw [← hQ, up_n2 h1, up_n2 h2]
  have q4 : Q 4 = P 4 + 1 := by rw [← hQ, up_s]
  have qx : Q (13 + P 4) = x := by rw [← hQ, up_n2 (by omega), up_s]
  have q0 := qn 0 (by omega) (by omega)
  have q1 := qn 1 (by omega) (by omega)
  have q2 := qn 2 (by omega) (by omega)
  have q3 := qn 3 (by omega) (by omega)
  have qv : PV Q := by
    unfold PV
    rw [q0, q1, q2, q3, q4]
    refine ⟨pv.1, pv.2.1, pv.2.2.1, pv.2.2.2.1, by omega, fun h => absurd h hp2, pv.2.2.2.2.2.2.1, fun i hi => ?_, fun j hj => ?_⟩
    · rw [qn _ (by omega) (by omega), qn _ (by omega) (by omega)]; exact pv.2.2.2.2.2.2.2.1 i hi
    · by_cases h : j = P 4
      · rw [h, qx]; exact hx
      · rw [qn _ (by omega) (by omega)]; exact pv.2.2.2.2.2.2.2.2 j (by omega)
  have qc : PC m F1 L T 4 Q := by
    unfold PC
    rw [q0, q1, q2, q3, q4, stN_congr (P := P) q3 (fun t _ => qn _ (by omega) (by omega)), f4 0 (by omega), f4 1 (by omega), f4 2 (by omega), f4 3 (by omega), f4 4 (by omega), f4 6 (by omega)]
    refine ⟨pc.1, pc.2.1, pc.2.2.1, pc.2.2.2.1, pc.2.2.2.2.1, f45, pc.2.2.2.2.2.2.1, fun i hi => ?_, fun j hj => ?_, fun i hi => ?_⟩
    · rw [q3] at hi
      obtain ⟨t, q1, q2, q3, q4, q5, q6⟩ := pc.2.2.2.2.2.2.2.1 i hi
      refine ⟨t, q1, q2, q3, ?_, ?_, ?_⟩
      · rw [qn _ (by omega) (by omega)]; exact q4
      · rw [fn t (by omega) (by omega) (by omega)]; exact q5
      · rw [fn t (by omega) (by omega) (by omega), qn _ (by omega) (by omega)]; exact q6
    · by_cases h : j = P 4
      · rw [h, qx]; exact f66
      · rw [f6 j h, qn _ (by omega) (by omega)]
        exact pc.2.2.2.2.2.2.2.2.1 j (by omega)
    · rw [fn _ (by omega) (by omega) (by omega), qn _ (by omega) (by omega)]
      exact pc.2.2.2.2.2.2.2.2.2 i hi
  have cv := CV_of qv qc
  generalize hM1 : up2 (up2 (up2 F1 49 0 0) 53 (13 + P 4) (nI x)) 53 4 (nI (P 4 + 1)) = M1
  have g45 : ∀ j, j ≠ 13 + P 4 → j ≠ 4 → M1 53 j = F 53 j := fun j h1 h2 => by rw [← hM1]; simp (disch := omega) only [up2_ne, up2_o, up2_s]; rw [fn 53 (by decide) (by decide) (by decide)]
  have g455 : M1 53 (13 + P 4) = nI x := by rw [← hM1]; simp (disch := omega) only [up2_ne, up2_o, up2_s]
  have g454 : M1 53 4 = nI (P 4 + 1) := by rw [← hM1]; simp (disch := omega) only [up2_ne, up2_o, up2_s]
  have qm : PM (M1 53) Q := by
    refine ⟨fun i hi => ?_, fun i hi => ?_, fun j hj => ?_⟩
    · by_cases h : i = 4
      · rw [h, q4, g454]
      · rw [g45 i (by omega) h, qn i h (by omega)]; exact pm.1 i hi
    · rw [q3] at hi
      rw [g45 _ (by omega) (by omega), g45 _ (by omega) (by omega), qn _ (by omega) (by omega), qn _ (by omega) (by omega)]
      exact pm.2.1 i hi
    · rw [q4] at hj
      by_cases h : j = P 4
      · rw [h, qx, g455]
      · rw [g45 _ (by omega) (by omega), qn _ (by omega) (by omega)]; exact pm.2.2 j (by omega)
  have mv := MV_of qv qm
  obtain ⟨G, g1, g2, g3⟩ := M_truly' (N := N) (m := m) (F := M1) (L := L) (T := T) hN qv qm
  have gg : G 53 = M1 53 := g2.1 53 (by decide) (by decide)
  have g4 : G 53 4 = nI (P 4 + 1) := by rw [gg, g454]
  refine ⟨nI (shT Q (setN Q) (P 4)), m, F1, L, T, G, ?_, ?_, ?_, by omega⟩
  · have e : nI (P 4) < 24 := nI_lt (a := P 4) (b := 24) (by omega) (by omega)
    have e5 : up2 F 8 (P 4) (nI x) 4 5 = nI (P 4) := by simp (disch := omega) only [up2_ne, up2_o, up2_s]; exact c5
    simp only [f_X11_day, f_X11_day_0, c0, C_can_y v3 c4 hx, c5, e, f_X2_addDay, f_X2_addDay_0, (gN_8 (show P 4 < 26 by omega)).2, e5, nI_1, f_X10_forget, f_X10_forget_0, hF1, f45, nI_pred, C_shownOn hN cv (show P 4 < Q 4 by omega), gI_0, gI_2, gI_4, gI_9, gI_15, gI_21, gI_49, gP_0, gP_2, gP_4, gP_9, gP_15, gP_21, gP_49, gR_0, gR_2, gR_4, gR_9, gR_15, gR_21, gR_49, gL_53, gL_54, oPz_0, oPz_1, Option.bind_some, c10, c01, cm1, c00, if_true, if_false, ne_eq, not_true_eq_false, not_false_eq_true]
  · have e2 : up2 F1 49 0 0 53 2 = nI (P 2) := by simp (disch := omega) only [up2_ne, up2_o, up2_s]; rw [fn 53 (by decide) (by decide) (by decide)]; exact pm.1 2 (by omega)
    have e3 : up2 F1 49 0 0 53 3 = nI (P 3) := by simp (disch := omega) only [up2_ne, up2_o, up2_s]; rw [fn 53 (by decide) (by decide) (by decide)]; exact pm.1 3 (by omega)
    have e4 : up2 F1 49 0 0 53 4 = nI (P 4) := by simp (disch := omega) only [up2_ne, up2_o, up2_s]; rw [fn 53 (by decide) (by decide) (by decide)]; exact pm.1 4 (by omega)
    have e4' : up2 (up2 F1 49 0 0) 53 (13 + P 4) (nI x) 53 4 = nI (P 4) := by simp (disch := omega) only [up2_ne, up2_o, up2_s]; rw [fn 53 (by decide) (by decide) (by decide)]; exact pm.1 4 (by omega)
    have e24 : ¬ nI (P 4) = 24 := fun q => h24 ((nI_eq (a := P 4) (b := 24) (by omega) (by omega)).mp q)
    simp only [f_X12_day, f_X12_day_0, M_there_y e2 hp2 v2, M_set_y v3 e3 hx, e4, e24, ix13, (gN_53 (show 13 + P 4 < 39 by omega)).2, e4', nI_1, hM1, g1, g4, nI_pred, M_shows hN (mv.same gg) (show Q 2 ≠ 0 by rw [q2]; exact hp2) g3 (show P 4 < Q 4 by omega), gI_0, gI_2, gI_4, gI_9, gI_15, gI_21, gI_49, gP_0, gP_2, gP_4, gP_9, gP_15, gP_21, gP_49, gR_0, gR_2, gR_4, gR_9, gR_15, gR_21, gR_49, gL_53, gL_54, oPz_0, oPz_1, Option.bind_some, c10, c01, cm1, c00, if_true, if_false, ne_eq, not_true_eq_false, not_false_eq_true]
    rfl
  · have gp : ∀ p, p ≠ 56 → p ≠ 49 → p ≠ 8 → p ≠ 53 → p ≠ 4 → p ≠ 15 → G p = F p := fun p p1 p2 p3 p4 p5 p6 => by rw [g2.1 p p1 p2, ← hM1]; simp (disch := omega) only [up2_ne, up2_o, up2_s]; exact fn p p3 p5 p6
    have gk : ∀ k, k ≠ 18 → k ≠ 19 → k ≠ 20 → k ≠ 0 → G 49 k = F 49 k := fun k k1 k2 k3 k4 => by rw [g2.2 k k1 k2 k3, ← hM1]; simp (disch := omega) only [up2_ne, up2_o, up2_s]; rw [fn 49 (by decide) (by decide) (by decide)]
    have gF : ∀ p, p ≠ 56 → p ≠ 49 → p ≠ 53 → G p = F1 p := fun p p1 p2 p3 => by rw [g2.1 p p1 p2, ← hM1]; simp (disch := omega) only [up2_ne, up2_o, up2_s]
    refine R.scr (fun p hp => gp p (by omega) (by omega) (by omega) (by omega) (by omega) (by omega)) ⟨Q, qv, by rw [gg]; exact qm, qc.same (gF 4 (by decide) (by decide) (by decide)) (fun t ht => gF t (by omega) (by omega) (by omega)) (fun j _ => by rw [gF _ (by decide) (by decide) (by decide)]) (gF _ (by decide) (by decide) (by decide)), Or.inl (by rw [gF 15 (by decide) (by decide) (by decide)]; exact f11)⟩ ?_ ?_ (by rw [gp 2 (by decide) (by decide) (by decide) (by decide) (by decide) (by decide)]) (gk 8 (by decide) (by decide) (by decide) (by decide)) (by rw [gp 21 (by decide) (by decide) (by decide) (by decide) (by decide) (by decide)]) (gk 30 (by decide) (by decide) (by decide) (by decide))
    · rw [gp 0 (by decide) (by decide) (by decide) (by decide) (by decide) (by decide), gk 9 (by decide) (by decide) (by decide) (by decide)]; exact R.2.2.2.2.1
    · rw [gp 0 (by decide) (by decide) (by decide) (by decide) (by decide) (by decide), gk 1 (by decide) (by decide) (by decide) (by decide)]; exact R.2.2.2.2.2.1
