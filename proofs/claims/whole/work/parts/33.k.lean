theorem Rel.pas {m : Nat} {F : Nat → Nat → Int32} {L : Nat → Nat → Option Nat} {T : Nat → Nat} (h : Rel m F L T) : Rel m (up2 (up2 (up2 F 0 8 0) 49 0 0) 49 1 0) L T := by
  refine h.xm (fun p h0 h1 => ?_) ?_ ?_ ?_ ?_
  · rw [up2_ne h1, up2_ne h1, up2_ne h0]
  · simpa [up2, up, upd] using h.2.2.2.2.1
  · simp [up2, up, upd]
  · simp [up2, up, upd]
  · simp [up2, up, upd]
theorem X12_in05 {N : Nat} {A : hP} {b : Int32} : f_X12_in N A b.toInt64 (0 : Int64) (5 : Int64) = some (bI ((0 : Int32) ≤ b ∧ b ≤ 5), A) := X12_in32 N A b 0 5
theorem X12_in99 {N : Nat} {A : hP} {b : Int32} : f_X12_in N A b.toInt64 (-1 : Int64) (99 : Int64) = some (bI ((-1 : Int32) ≤ b ∧ b ≤ 99), A) := X12_in32 N A b (-1) 99
theorem o_heavy (N : Nat) (hN : 5000 ≤ N) (m : Nat) (F : Nat → Nat → Int32) (L : Nat → Nat → Option Nat) (T : Nat → Nat) (hm : m ≤ 3000) (R : Rel m F L T) (a b : Int32) : OpOk (fun A => f_X11_heavy N A (some 0) a b) (fun A => f_X12_heavy N A (some 49) a b) m F L T := by
  obtain ⟨P, pv, pm, pc, sr⟩ := R.2.2.1
  have v3 : P 3 ≤ 4 := pv.2.2.2.1
  have c4 : F 4 4 = nI (P 3) := pc.2.2.2.2.1
  have m3 : up2 F 49 0 0 53 3 = nI (P 3) := by simp (disch := omega) only [up2_ne, up2_o, up2_s]; exact pm.1 3 (by omega)
  have bad : (a < 0 ∨ nI (P 3) ≤ a) → OpOk (fun A => f_X11_heavy N A (some 0) a b) (fun A => f_X12_heavy N A (some 49) a b) m F L T := by
    intro h
    refine ⟨-1000001, m, F, L, T, up2 F 49 0 0, ?_, ?_, R.thr 0, by omega⟩
    · simp only [f_X11_heavy, f_X11_heavy_0, f_X11_heavy_24, C_thing_n c4 h, gI_0, gI_2, gI_4, gI_9, gI_15, gI_21, gI_49, gP_0, gP_2, gP_4, gP_9, gP_15, gP_21, gP_49, gR_0, gR_2, gR_4, gR_9, gR_15, gR_21, gR_49, gL_53, gL_54, oPz_0, oPz_1, Option.bind_some, c10, c01, cm1, c00, if_true, if_false, ne_eq, not_true_eq_false, not_false_eq_true]
    · simp only [f_X12_heavy, f_X12_heavy_0, f_X12_heavy_27, M_thing_n v3 m3 h, gI_0, gI_2, gI_4, gI_9, gI_15, gI_21, gI_49, gP_0, gP_2, gP_4, gP_9, gP_15, gP_21, gP_49, gR_0, gR_2, gR_4, gR_9, gR_15, gR_21, gR_49, gL_53, gL_54, oPz_0, oPz_1, Option.bind_some, c10, c01, cm1, c00, if_true, if_false, ne_eq, not_true_eq_false, not_false_eq_true]
  rcases pk_ix a (n := P 3) (by omega) with h | h | ⟨i, hi, rfl⟩
  · exact bad (Or.inl h)
  · exact bad (Or.inr h)
  clear bad
  obtain ⟨t, q1, q2, q3, q4, q5, q6⟩ := pc.2.2.2.2.2.2.2.1 i hi
  have q1' : L 7 i = some t := q1
  obtain ⟨k1, k2, k3⟩ := pv.2.2.2.2.2.2.2.1 i hi
  have th : isTh (T t) = true := by rw [q4]; exact isTh_cls _ k2
  by_cases hb : (-1 : Int32) ≤ b ∧ b ≤ 99
  case neg =>
    refine ⟨-1000001, m, F, L, T, up2 F 49 0 0, ?_, ?_, R.thr 0, by omega⟩
    · by_cases h1 : b < -1
      · simp only [f_X11_heavy, f_X11_heavy_0, f_X11_heavy_24, C_thing_y v3 c4 hi, q1', reduceCtorEq, h1, gI_0, gI_2, gI_4, gI_9, gI_15, gI_21, gI_49, gP_0, gP_2, gP_4, gP_9, gP_15, gP_21, gP_49, gR_0, gR_2, gR_4, gR_9, gR_15, gR_21, gR_49, gL_53, gL_54, oPz_0, oPz_1, Option.bind_some, c10, c01, cm1, c00, if_true, if_false, ne_eq, not_true_eq_false, not_false_eq_true]
      · have h2 : ¬ b ≤ 99 := fun q => hb ⟨Int32.not_lt.mp h1, q⟩
        simp only [f_X11_heavy, f_X11_heavy_0, f_X11_heavy_24, C_thing_y v3 c4 hi, q1', reduceCtorEq, h1, h2, gI_0, gI_2, gI_4, gI_9, gI_15, gI_21, gI_49, gP_0, gP_2, gP_4, gP_9, gP_15, gP_21, gP_49, gR_0, gR_2, gR_4, gR_9, gR_15, gR_21, gR_49, gL_53, gL_54, oPz_0, oPz_1, Option.bind_some, c10, c01, cm1, c00, if_true, if_false, ne_eq, not_true_eq_false, not_false_eq_true]
    · simp only [f_X12_heavy, f_X12_heavy_0, f_X12_heavy_27, M_thing_y v3 m3 hi, X12_in99, bI_f hb, gI_0, gI_2, gI_4, gI_9, gI_15, gI_21, gI_49, gP_0, gP_2, gP_4, gP_9, gP_15, gP_21, gP_49, gR_0, gR_2, gR_4, gR_9, gR_15, gR_21, gR_49, gL_53, gL_54, oPz_0, oPz_1, Option.bind_some, c10, c01, cm1, c00, if_true, if_false, ne_eq, not_true_eq_false, not_false_eq_true]
  have h1 : ¬ b < -1 := Int32.not_lt.mpr hb.1
  have pm' : PM (up2 F 49 0 0 53) P := by rw [up2_ne (by decide)]; exact pm
  obtain ⟨G, g1, g2, g3⟩ := M_truly' (N := N) (m := m) (F := up2 F 49 0 0) (L := L) (T := T) hN pv pm'
  have g45 : G 53 = F 53 := by rw [g2.1 53 (by decide) (by decide)]; simp (disch := omega) only [up2_ne, up2_o, up2_s]
  have mvG := (MV_of pv pm).same g45
  by_cases hb0 : b < 0
  · have h0 : ¬ (0 : Int32) ≤ b := Int32.not_le.mpr hb0
    refine ⟨nI (P (6 + 2 * i)), m, F, L, T, G, ?_, ?_, (R.thr 0).lay g2, by omega⟩
    · simp only [f_X11_heavy, f_X11_heavy_0, f_X11_heavy_47, C_thing_y v3 c4 hi, q1', reduceCtorEq, h1, hb.2, h0, gT_1 q2 q3 th, q6, gI_0, gI_2, gI_4, gI_9, gI_15, gI_21, gI_49, gP_0, gP_2, gP_4, gP_9, gP_15, gP_21, gP_49, gR_0, gR_2, gR_4, gR_9, gR_15, gR_21, gR_49, gL_53, gL_54, oPz_0, oPz_1, Option.bind_some, c10, c01, cm1, c00, if_true, if_false, ne_eq, not_true_eq_false, not_false_eq_true]
    · simp only [f_X12_heavy, f_X12_heavy_0, f_X12_heavy_53, M_thing_y v3 m3 hi, X12_in99, bI_t hb, g1, h0, (gN_56 (show i < 4 by omega)).1, (g3.1 i hi).1, truN, gI_0, gI_2, gI_4, gI_9, gI_15, gI_21, gI_49, gP_0, gP_2, gP_4, gP_9, gP_15, gP_21, gP_49, gR_0, gR_2, gR_4, gR_9, gR_15, gR_21, gR_49, gL_53, gL_54, oPz_0, oPz_1, Option.bind_some, c10, c01, cm1, c00, if_true, if_false, ne_eq, not_true_eq_false, not_false_eq_true]
  · have h0 : ((0 : Int32) ≤ b) = True := eq_true (Int32.not_lt.mp hb0)
    obtain ⟨d, hd, rfl⟩ := nI_of2 (M := 99) (n := 99) (by decide) hb0 hb.2
    refine ⟨nI (heavyN (P (5 + 2 * i)) (P (6 + 2 * i)) d), m, F, L, T, G, ?_, ?_, (R.thr 0).lay g2, by omega⟩
    · simp only [f_X11_heavy, f_X11_heavy_0, f_X11_heavy_47, C_thing_y v3 c4 hi, q1', reduceCtorEq, h1, hb.2, h0, gT_1 q2 q3 th, q6, v_heavy q2 q3 q4 k1 k2 k3 hd, gI_0, gI_2, gI_4, gI_9, gI_15, gI_21, gI_49, gP_0, gP_2, gP_4, gP_9, gP_15, gP_21, gP_49, gR_0, gR_2, gR_4, gR_9, gR_15, gR_21, gR_49, gL_53, gL_54, oPz_0, oPz_1, Option.bind_some, c10, c01, cm1, c00, if_true, if_false, ne_eq, not_true_eq_false, not_false_eq_true]
    · simp only [f_X12_heavy, f_X12_heavy_0, f_X12_heavy_53, M_thing_y v3 m3 hi, X12_in99, bI_t hb, g1, h0, M_heavy mvG hi (g3.1 i hi) hd, truN, gI_0, gI_2, gI_4, gI_9, gI_15, gI_21, gI_49, gP_0, gP_2, gP_4, gP_9, gP_15, gP_21, gP_49, gR_0, gR_2, gR_4, gR_9, gR_15, gR_21, gR_49, gL_53, gL_54, oPz_0, oPz_1, Option.bind_some, c10, c01, cm1, c00, if_true, if_false, ne_eq, not_true_eq_false, not_false_eq_true]
def isK (k j : Nat) : Bool := decide (j = 0 ∨ k = j ∨ (j = 1 ∧ k < 4) ∨ (j = 4 ∧ k = 5))
theorem X11_isK {N m t k j : Nat} {F : Nat → Nat → Int32} {L : Nat → Nat → Option Nat} {T : Nat → Nat} (h1 : 62 ≤ t) (h2 : t < 62 + m) (h3 : T t = clsOf k) (k1 : 1 ≤ k) (k5 : k ≤ 5) (hj : j ≤ 5) : f_X11_isOfKind N (Hp m F L T) (some t) (nI j) = some (bB (isK k j), Hp m F L T) := by
  simp only [f_X11_isOfKind, f_X11_isOfKind_0, oCt, gT_th h1 h2, h3, Option.bind_some]
  rcases (show k = 1 ∨ k = 2 ∨ k = 3 ∨ k = 4 ∨ k = 5 by omega) with rfl | rfl | rfl | rfl | rfl <;> rcases (show j = 0 ∨ j = 1 ∨ j = 2 ∨ j = 3 ∨ j = 4 ∨ j = 5 by omega) with rfl | rfl | rfl | rfl | rfl | rfl <;> rfl
theorem X12_isK {N k j : Nat} {A : hP} (k1 : 1 ≤ k) (k5 : k ≤ 5) (hj : j ≤ 5) : f_X12_isOf N A (nI k) (nI j) = some (bB (isK k j), A) := by
  rcases (show k = 1 ∨ k = 2 ∨ k = 3 ∨ k = 4 ∨ k = 5 by omega) with rfl | rfl | rfl | rfl | rfl <;> rcases (show j = 0 ∨ j = 1 ∨ j = 2 ∨ j = 3 ∨ j = 4 ∨ j = 5 by omega) with rfl | rfl | rfl | rfl | rfl | rfl <;> rfl
theorem o_as (N : Nat) (hN : 5000 ≤ N) (m : Nat) (F : Nat → Nat → Int32) (L : Nat → Nat → Option Nat) (T : Nat → Nat) (hm : m ≤ 3000) (R : Rel m F L T) (a b : Int32) : OpOk (fun A => f_X11_as N A (some 0) a b) (fun A => f_X12_as N A (some 49) a b) m F L T := by
  obtain ⟨P, pv, pm, pc, sr⟩ := R.2.2.1
  have v3 : P 3 ≤ 4 := pv.2.2.2.1
  have c4 : F 4 4 = nI (P 3) := pc.2.2.2.2.1
  have m3 : up2 F 49 0 0 53 3 = nI (P 3) := by simp (disch := omega) only [up2_ne, up2_o, up2_s]; exact pm.1 3 (by omega)
  have bad : (a < 0 ∨ nI (P 3) ≤ a) → OpOk (fun A => f_X11_as N A (some 0) a b) (fun A => f_X12_as N A (some 49) a b) m F L T := by
    intro h
    refine ⟨-1000001, m, F, L, T, up2 F 49 0 0, ?_, ?_, R.thr 0, by omega⟩
    · simp only [f_X11_as, f_X11_as_0, f_X11_as_22, C_thing_n c4 h, gI_0, gI_2, gI_4, gI_9, gI_15, gI_21, gI_49, gP_0, gP_2, gP_4, gP_9, gP_15, gP_21, gP_49, gR_0, gR_2, gR_4, gR_9, gR_15, gR_21, gR_49, gL_53, gL_54, oPz_0, oPz_1, Option.bind_some, c10, c01, cm1, c00, if_true, if_false, ne_eq, not_true_eq_false, not_false_eq_true]
    · simp only [f_X12_as, f_X12_as_0, f_X12_as_25, M_thing_n v3 m3 h, gI_0, gI_2, gI_4, gI_9, gI_15, gI_21, gI_49, gP_0, gP_2, gP_4, gP_9, gP_15, gP_21, gP_49, gR_0, gR_2, gR_4, gR_9, gR_15, gR_21, gR_49, gL_53, gL_54, oPz_0, oPz_1, Option.bind_some, c10, c01, cm1, c00, if_true, if_false, ne_eq, not_true_eq_false, not_false_eq_true]
  rcases pk_ix a (n := P 3) (by omega) with h | h | ⟨i, hi, rfl⟩
  · exact bad (Or.inl h)
  · exact bad (Or.inr h)
  clear bad
  obtain ⟨t, q1, q2, q3, q4, q5, q6⟩ := pc.2.2.2.2.2.2.2.1 i hi
  have q1' : L 7 i = some t := q1
  obtain ⟨k1, k2, k3⟩ := pv.2.2.2.2.2.2.2.1 i hi
  have th : isTh (T t) = true := by rw [q4]; exact isTh_cls _ k2
  by_cases hb : (0 : Int32) ≤ b ∧ b ≤ 5
  case neg =>
    refine ⟨-1000001, m, F, L, T, up2 F 49 0 0, ?_, ?_, R.thr 0, by omega⟩
    · by_cases h1 : b < 0
      · simp only [f_X11_as, f_X11_as_0, f_X11_as_22, C_thing_y v3 c4 hi, q1', reduceCtorEq, h1, gI_0, gI_2, gI_4, gI_9, gI_15, gI_21, gI_49, gP_0, gP_2, gP_4, gP_9, gP_15, gP_21, gP_49, gR_0, gR_2, gR_4, gR_9, gR_15, gR_21, gR_49, gL_53, gL_54, oPz_0, oPz_1, Option.bind_some, c10, c01, cm1, c00, if_true, if_false, ne_eq, not_true_eq_false, not_false_eq_true]
      · have h2 : ¬ b ≤ 5 := fun q => hb ⟨Int32.not_lt.mp h1, q⟩
        simp only [f_X11_as, f_X11_as_0, f_X11_as_22, C_thing_y v3 c4 hi, q1', reduceCtorEq, h1, h2, gI_0, gI_2, gI_4, gI_9, gI_15, gI_21, gI_49, gP_0, gP_2, gP_4, gP_9, gP_15, gP_21, gP_49, gR_0, gR_2, gR_4, gR_9, gR_15, gR_21, gR_49, gL_53, gL_54, oPz_0, oPz_1, Option.bind_some, c10, c01, cm1, c00, if_true, if_false, ne_eq, not_true_eq_false, not_false_eq_true]
    · simp only [f_X12_as, f_X12_as_0, f_X12_as_25, M_thing_y v3 m3 hi, X12_in05, bI_f hb, gI_0, gI_2, gI_4, gI_9, gI_15, gI_21, gI_49, gP_0, gP_2, gP_4, gP_9, gP_15, gP_21, gP_49, gR_0, gR_2, gR_4, gR_9, gR_15, gR_21, gR_49, gL_53, gL_54, oPz_0, oPz_1, Option.bind_some, c10, c01, cm1, c00, if_true, if_false, ne_eq, not_true_eq_false, not_false_eq_true]
  have h0 : ¬ b < 0 := Int32.not_lt.mpr hb.1
  obtain ⟨j, hj, rfl⟩ := nI_of2 (M := 5) (n := 5) (by decide) h0 hb.2
  by_cases hk : isK (P (5 + 2 * i)) j = true
  · refine ⟨nI i, m, up2 F 0 8 0, L, T, up2 (up2 (up2 F 0 8 0) 49 0 0) 49 1 0, ?_, ?_, R.pas, by omega⟩
    · simp only [f_X11_as, f_X11_as_0, f_X11_as_49, C_thing_y v3 c4 hi, q1', reduceCtorEq, h0, hb.2, X11_isK q2 q3 q4 k1 k2 hj, hk, bB_t, gT_0 q2 q3 th, q5, f_X11_passed, f_X11_passed_0, gI_0, gI_2, gI_4, gI_9, gI_15, gI_21, gI_49, gP_0, gP_2, gP_4, gP_9, gP_15, gP_21, gP_49, gR_0, gR_2, gR_4, gR_9, gR_15, gR_21, gR_49, gL_53, gL_54, oPz_0, oPz_1, Option.bind_some, c10, c01, cm1, c00, if_true, if_false, ne_eq, not_true_eq_false, not_false_eq_true]
    · have m3' : up2 (up2 F 0 8 0) 49 0 0 53 3 = nI (P 3) := by simp (disch := omega) only [up2_ne, up2_o, up2_s]; exact pm.1 3 (by omega)
      have e : up2 (up2 (up2 F 0 8 0) 49 0 0) 49 1 0 53 (5 + 2 * i) = nI (P (5 + 2 * i)) := by simp (disch := omega) only [up2_ne, up2_o, up2_s]; exact (pm.2.1 i hi).1
      simp only [f_X12_as, f_X12_as_0, f_X12_as_54, M_thing_y v3 m3' hi, X12_in05, bI_t hb, f_X12_kindOf, f_X12_kindOf_0, ix5, (gN_53 (show 5 + 2 * i < 39 by omega)).1, e, X12_isK k1 k2 hj, hk, bB_t, gI_0, gI_2, gI_4, gI_9, gI_15, gI_21, gI_49, gP_0, gP_2, gP_4, gP_9, gP_15, gP_21, gP_49, gR_0, gR_2, gR_4, gR_9, gR_15, gR_21, gR_49, gL_53, gL_54, oPz_0, oPz_1, Option.bind_some, c10, c01, cm1, c00, if_true, if_false, ne_eq, not_true_eq_false, not_false_eq_true]
  · have hk' := (Bool.not_eq_true _).mp hk
    refine ⟨-1000013, m, up2 F 0 8 3, L, T, _, ?_, ?_, R.fnd 3, by omega⟩
    · simp only [f_X11_as, f_X11_as_0, f_X11_as_49, C_thing_y v3 c4 hi, q1', reduceCtorEq, h0, hb.2, X11_isK q2 q3 q4 k1 k2 hj, hk', bB_f, f_X11_found, f_X11_found_0, gI_0, gI_2, gI_4, gI_9, gI_15, gI_21, gI_49, gP_0, gP_2, gP_4, gP_9, gP_15, gP_21, gP_49, gR_0, gR_2, gR_4, gR_9, gR_15, gR_21, gR_49, gL_53, gL_54, oPz_0, oPz_1, Option.bind_some, c10, c01, cm1, c00, if_true, if_false, ne_eq, not_true_eq_false, not_false_eq_true]
      rfl
    · have m3' : up2 (up2 F 0 8 3) 49 0 0 53 3 = nI (P 3) := by simp (disch := omega) only [up2_ne, up2_o, up2_s]; exact pm.1 3 (by omega)
      have e : up2 (up2 (up2 F 0 8 3) 49 0 0) 49 1 0 53 (5 + 2 * i) = nI (P (5 + 2 * i)) := by simp (disch := omega) only [up2_ne, up2_o, up2_s]; exact (pm.2.1 i hi).1
      simp only [f_X12_as, f_X12_as_0, f_X12_as_54, M_thing_y v3 m3' hi, X12_in05, bI_t hb, f_X12_kindOf, f_X12_kindOf_0, ix5, (gN_53 (show 5 + 2 * i < 39 by omega)).1, e, X12_isK k1 k2 hj, hk', bB_f, f_X12_finding, f_X12_finding_0, gI_0, gI_2, gI_4, gI_9, gI_15, gI_21, gI_49, gP_0, gP_2, gP_4, gP_9, gP_15, gP_21, gP_49, gR_0, gR_2, gR_4, gR_9, gR_15, gR_21, gR_49, gL_53, gL_54, oPz_0, oPz_1, Option.bind_some, c10, c01, cm1, c00, if_true, if_false, ne_eq, not_true_eq_false, not_false_eq_true]
      rfl
theorem o_sold (N : Nat) (hN : 5000 ≤ N) (m : Nat) (F : Nat → Nat → Int32) (L : Nat → Nat → Option Nat) (T : Nat → Nat) (hm : m ≤ 3000) (R : Rel m F L T) (a b : Int32) : OpOk (fun A => f_X11_sold N A (some 0) a b) (fun A => f_X12_sold N A (some 49) a b) m F L T := by
  obtain ⟨P, pv, pm, pc, sr⟩ := R.2.2.1
  have v3 : P 3 ≤ 4 := pv.2.2.2.1
  have c4 : F 4 4 = nI (P 3) := pc.2.2.2.2.1
  have m3 : up2 F 49 0 0 53 3 = nI (P 3) := by simp (disch := omega) only [up2_ne, up2_o, up2_s]; exact pm.1 3 (by omega)
  have v4 : P 4 ≤ 24 := pv.2.2.2.2.1
  have c5 : F 4 5 = nI (P 4) := pc.2.2.2.2.2.1
  have m4 : up2 F 49 0 0 53 4 = nI (P 4) := by simp (disch := omega) only [up2_ne, up2_o, up2_s]; exact pm.1 4 (by omega)
  have bad : (a < 0 ∨ nI (P 3) ≤ a) → OpOk (fun A => f_X11_sold N A (some 0) a b) (fun A => f_X12_sold N A (some 49) a b) m F L T := by
    intro h
    refine ⟨-1000001, m, F, L, T, up2 F 49 0 0, ?_, ?_, R.thr 0, by omega⟩
    · simp only [f_X11_sold, f_X11_sold_0, f_X11_sold_41, C_thing_n c4 h, gI_0, gI_2, gI_4, gI_9, gI_15, gI_21, gI_49, gP_0, gP_2, gP_4, gP_9, gP_15, gP_21, gP_49, gR_0, gR_2, gR_4, gR_9, gR_15, gR_21, gR_49, gL_53, gL_54, oPz_0, oPz_1, Option.bind_some, c10, c01, cm1, c00, if_true, if_false, ne_eq, not_true_eq_false, not_false_eq_true]
    · simp only [f_X12_sold, f_X12_sold_0, f_X12_sold_41, M_thing_n v3 m3 h, gI_0, gI_2, gI_4, gI_9, gI_15, gI_21, gI_49, gP_0, gP_2, gP_4, gP_9, gP_15, gP_21, gP_49, gR_0, gR_2, gR_4, gR_9, gR_15, gR_21, gR_49, gL_53, gL_54, oPz_0, oPz_1, Option.bind_some, c10, c01, cm1, c00, if_true, if_false, ne_eq, not_true_eq_false, not_false_eq_true]
  rcases pk_ix a (n := P 3) (by omega) with h | h | ⟨i, hi, rfl⟩
  · exact bad (Or.inl h)
  · exact bad (Or.inr h)
  clear bad
  obtain ⟨t, q1, q2, q3, q4, q5, q6⟩ := pc.2.2.2.2.2.2.2.1 i hi
  have q1' : L 7 i = some t := q1
  obtain ⟨k1, k2, k3⟩ := pv.2.2.2.2.2.2.2.1 i hi
  have th : isTh (T t) = true := by rw [q4]; exact isTh_cls _ k2
  have bad : (b < 0 ∨ nI (P 4) ≤ b) → OpOk (fun A => f_X11_sold N A (some 0) (nI i) b) (fun A => f_X12_sold N A (some 49) (nI i) b) m F L T := by
    intro h
    refine ⟨-1000001, m, F, L, T, up2 F 49 0 0, ?_, ?_, R.thr 0, by omega⟩
    · by_cases hb : b < 1
      · simp only [f_X11_sold, f_X11_sold_0, f_X11_sold_41, C_thing_y v3 c4 hi, q1', reduceCtorEq, hb, gI_0, gI_2, gI_4, gI_9, gI_15, gI_21, gI_49, gP_0, gP_2, gP_4, gP_9, gP_15, gP_21, gP_49, gR_0, gR_2, gR_4, gR_9, gR_15, gR_21, gR_49, gL_53, gL_54, oPz_0, oPz_1, Option.bind_some, c10, c01, cm1, c00, if_true, if_false, ne_eq, not_true_eq_false, not_false_eq_true]
      · simp only [f_X11_sold, f_X11_sold_0, f_X11_sold_41, C_thing_y v3 c4 hi, q1', reduceCtorEq, hb, C_day_n c5 h, gI_0, gI_2, gI_4, gI_9, gI_15, gI_21, gI_49, gP_0, gP_2, gP_4, gP_9, gP_15, gP_21, gP_49, gR_0, gR_2, gR_4, gR_9, gR_15, gR_21, gR_49, gL_53, gL_54, oPz_0, oPz_1, Option.bind_some, c10, c01, cm1, c00, if_true, if_false, ne_eq, not_true_eq_false, not_false_eq_true]
    · simp only [f_X12_sold, f_X12_sold_0, f_X12_sold_41, M_thing_y v3 m3 hi, M_day_n v4 m4 h, gI_0, gI_2, gI_4, gI_9, gI_15, gI_21, gI_49, gP_0, gP_2, gP_4, gP_9, gP_15, gP_21, gP_49, gR_0, gR_2, gR_4, gR_9, gR_15, gR_21, gR_49, gL_53, gL_54, oPz_0, oPz_1, Option.bind_some, c10, c01, cm1, c00, if_true, if_false, ne_eq, not_true_eq_false, not_false_eq_true]
  rcases pk_ix b (n := P 4) (by omega) with h | h | ⟨d, hd, rfl⟩
  · exact bad (Or.inl h)
  · exact bad (Or.inr h)
  clear bad
  have cv := CV_of pv pc
  have mv := MV_of pv pm
  have mv0 := mv.same (show up2 F 49 0 0 53 = F 53 by simp (disch := omega) only [up2_ne, up2_o, up2_s])
  by_cases hd0 : d = 0
  · subst hd0
    refine ⟨-1000001, m, F, L, T, up2 F 49 0 0, ?_, ?_, R.thr 0, by omega⟩
    · simp only [f_X11_sold, f_X11_sold_0, f_X11_sold_41, C_thing_y v3 c4 hi, q1', reduceCtorEq, show nI 0 < 1 by decide, gI_0, gI_2, gI_4, gI_9, gI_15, gI_21, gI_49, gP_0, gP_2, gP_4, gP_9, gP_15, gP_21, gP_49, gR_0, gR_2, gR_4, gR_9, gR_15, gR_21, gR_49, gL_53, gL_54, oPz_0, oPz_1, Option.bind_some, c10, c01, cm1, c00, if_true, if_false, ne_eq, not_true_eq_false, not_false_eq_true]
    · have hz : f_X12_isDay N (Hp m (up2 F 49 0 0) L T) (some 49) 0 = some (1, Hp m (up2 F 49 0 0) L T) := M_day_y v4 m4 hd
      simp only [f_X12_sold, f_X12_sold_0, f_X12_sold_41, M_thing_y v3 m3 hi, hz, show nI 0 = 0 by decide, gI_0, gI_2, gI_4, gI_9, gI_15, gI_21, gI_49, gP_0, gP_2, gP_4, gP_9, gP_15, gP_21, gP_49, gR_0, gR_2, gR_4, gR_9, gR_15, gR_21, gR_49, gL_53, gL_54, oPz_0, oPz_1, Option.bind_some, c10, c01, cm1, c00, if_true, if_false, ne_eq, not_true_eq_false, not_false_eq_true]
  have e1 : ¬ nI d < 1 := nI_nlt (a := d) (b := 1) (by omega) (by omega)
  have e0 : ¬ nI d = 0 := nI_ne0 (by omega) (by omega)
  have s1 := mv0.2.2.2.2.2.2.1 d hd
  by_cases hl : (setN P d).testBit i = true
  case neg =>
    have hl' := (Bool.not_eq_true _).mp hl
    refine ⟨-1000001, m, F, L, T, up2 F 49 0 0, ?_, ?_, R.thr 0, by omega⟩
    · simp only [f_X11_sold, f_X11_sold_0, f_X11_sold_41, C_thing_y v3 c4 hi, q1', reduceCtorEq, e1, C_day_y v4 c5 hd, C_lies cv hd (show i < 32 by omega), hl', bB_f, gI_0, gI_2, gI_4, gI_9, gI_15, gI_21, gI_49, gP_0, gP_2, gP_4, gP_9, gP_15, gP_21, gP_49, gR_0, gR_2, gR_4, gR_9, gR_15, gR_21, gR_49, gL_53, gL_54, oPz_0, oPz_1, Option.bind_some, c10, c01, cm1, c00, if_true, if_false, ne_eq, not_true_eq_false, not_false_eq_true]
    · simp only [f_X12_sold, f_X12_sold_0, f_X12_sold_41, M_thing_y v3 m3 hi, M_day_y v4 m4 hd, e0, ix13, (gN_53 (show 13 + d < 39 by omega)).1, s1.1, bit1 (show setN P d < 2 ^ 31 by omega) (show i < 32 by omega), hl', bB_f, gI_0, gI_2, gI_4, gI_9, gI_15, gI_21, gI_49, gP_0, gP_2, gP_4, gP_9, gP_15, gP_21, gP_49, gR_0, gR_2, gR_4, gR_9, gR_15, gR_21, gR_49, gL_53, gL_54, oPz_0, oPz_1, Option.bind_some, c10, c01, cm1, c00, if_true, if_false, ne_eq, not_true_eq_false, not_false_eq_true]
  have hp2 : P 2 ≠ 0 := fun h => by have := pv.2.2.2.2.2.1 h; omega
  have pm' : PM (up2 F 49 0 0 53) P := by rw [up2_ne (by decide)]; exact pm
  obtain ⟨G, g1, g2, g3⟩ := M_truly' (N := N) (m := m) (F := up2 F 49 0 0) (L := L) (T := T) hN pv pm'
  have g45 : G 53 = F 53 := by rw [g2.1 53 (by decide) (by decide)]; simp (disch := omega) only [up2_ne, up2_o, up2_s]
  have mvG := (MV_of pv pm).same g45
  have ed : nI d - 1 = nI (d - 1) := pk_sub (a := d) (b := 1) (by omega)
  refine ⟨nI (shT P (setN P) d) - nI (shT P (setN P) (d - 1)) - nI (heavyN (P (5 + 2 * i)) (P (6 + 2 * i)) d), m, F, L, T, G, ?_, ?_, (R.thr 0).lay g2, by omega⟩
  · simp only [f_X11_sold, f_X11_sold_0, f_X11_sold_41, C_thing_y v3 c4 hi, q1', reduceCtorEq, e1, C_day_y v4 c5 hd, C_lies cv hd (show i < 32 by omega), hl, bB_t, ed, C_shownOn hN cv hd, C_shownOn hN cv (show d - 1 < P 4 by omega), gT_1 q2 q3 th, q6, v_heavy q2 q3 q4 k1 k2 k3 (show d ≤ 99 by omega), gI_0, gI_2, gI_4, gI_9, gI_15, gI_21, gI_49, gP_0, gP_2, gP_4, gP_9, gP_15, gP_21, gP_49, gR_0, gR_2, gR_4, gR_9, gR_15, gR_21, gR_49, gL_53, gL_54, oPz_0, oPz_1, Option.bind_some, c10, c01, cm1, c00, if_true, if_false, ne_eq, not_true_eq_false, not_false_eq_true]
  · simp only [f_X12_sold, f_X12_sold_0, f_X12_sold_41, M_thing_y v3 m3 hi, M_day_y v4 m4 hd, e0, ix13, (gN_53 (show 13 + d < 39 by omega)).1, s1.1, bit1 (show setN P d < 2 ^ 31 by omega) (show i < 32 by omega), hl, bB_t, g1, ed, M_shows hN mvG hp2 g3 hd, M_shows hN mvG hp2 g3 (show d - 1 < P 4 by omega), M_heavy mvG hi (g3.1 i hi) (show d ≤ 99 by omega), gI_0, gI_2, gI_4, gI_9, gI_15, gI_21, gI_49, gP_0, gP_2, gP_4, gP_9, gP_15, gP_21, gP_49, gR_0, gR_2, gR_4, gR_9, gR_15, gR_21, gR_49, gL_53, gL_54, oPz_0, oPz_1, Option.bind_some, c10, c01, cm1, c00, if_true, if_false, ne_eq, not_true_eq_false, not_false_eq_true]
    rfl
