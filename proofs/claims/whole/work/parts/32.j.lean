theorem pw16 {n : Nat} (h : n ≤ 4) : 2 ^ n ≤ 16 := by
  have : 2 ^ n ≤ 2 ^ 4 := Nat.pow_le_pow_right (by decide) h
  exact this
theorem MV.same {F G : Nat → Nat → Int32} {P S : Nat → Nat} {D : Nat} (h : MV F P S D) (e : G 53 = F 53) : MV G P S D := by
  unfold MV
  rw [e]
  exact h
theorem CV_of {m : Nat} {F : Nat → Nat → Int32} {L : Nat → Nat → Option Nat} {T : Nat → Nat} {P : Nat → Nat} (pv : PV P) (pc : PC m F L T 4 P) : CV m F L T P (setN P) (P 4) := by
  obtain ⟨v0, v1, v2, v3, v4, v5, v6, v7, v8⟩ := pv
  obtain ⟨c0, c1, c2, c3, c4, c5, c6, c7, c8, c9⟩ := pc
  have := pw16 v3
  exact ⟨v3, v0, v1, v2, v7, c1, c2, c3, c4, c6, c7, fun d hd => ⟨c8 d hd, by have := v8 d hd; unfold setN; omega⟩, by omega⟩
theorem MV_of {F : Nat → Nat → Int32} {P : Nat → Nat} (pv : PV P) (pm : PM (F 53) P) : MV F P (setN P) (P 4) := by
  obtain ⟨v0, v1, v2, v3, v4, v5, v6, v7, v8⟩ := pv
  obtain ⟨m1, m2, m3⟩ := pm
  have := pw16 v3
  exact ⟨v3, v2, v7, m1 2 (by omega), m1 3 (by omega), fun i hi => (m2 i hi).1, fun d hd => ⟨m3 d hd, by have := v8 d hd; unfold setN; omega⟩, by omega⟩
/-- only what the reference lays has changed -/
def Lay (F G : Nat → Nat → Int32) : Prop := (∀ p, p ≠ 56 → p ≠ 49 → G p = F p) ∧ ∀ k, k ≠ 18 → k ≠ 19 → k ≠ 20 → G 49 k = F 49 k
theorem em6 : ∀ e, e < 26 → (nI e = -1000000 ↔ e = 1000) := by decide
theorem M_truly {N m : Nat} {F : Nat → Nat → Int32} {L : Nat → Nat → Option Nat} {T : Nat → Nat} {P : Nat → Nat} (hN : 5000 ≤ N) (pv : PV P) (h0 : F 53 0 = nI (P 0)) (h1 : F 53 1 = nI (P 1)) (h3 : F 53 3 = nI (P 3)) (h6 : ∀ i, i < P 3 → F 53 (6 + 2 * i) = nI (P (6 + 2 * i))) : ∃ G, f_X12_layTruly N (Hp m F L T) (some 49) = some ((), Hp m G L T) ∧ Lay F G ∧ MW G P (truN P) (P 0) (P 1) 1000 := by
  obtain ⟨v0, v1, v2, v3, v4, v5, v6, v7, v8⟩ := pv
  obtain ⟨G, g1, g2, g3, g4, g5, g6, g7⟩ := M_truly_l (N := N) (m := m) (L := L) (T := T) v3 h3 h6 N 0 F (fun _ _ => rfl) (fun t ht => by omega) (by omega) (by omega)
  refine ⟨G, g1, ⟨g2, g3⟩, fun t ht => ⟨g4 t ht, (v7 t ht).2.2⟩, by rw [g5, h0], v0, by rw [g6, h1], v1, ?_⟩
  rw [g7]
  exact em6
theorem M_truly' {N m : Nat} {F : Nat → Nat → Int32} {L : Nat → Nat → Option Nat} {T : Nat → Nat} {P : Nat → Nat} (hN : 5000 ≤ N) (pv : PV P) (pm : PM (F 53) P) : ∃ G, f_X12_layTruly N (Hp m F L T) (some 49) = some ((), Hp m G L T) ∧ Lay F G ∧ MW G P (truN P) (P 0) (P 1) 1000 :=
  M_truly hN pv (pm.1 0 (by omega)) (pm.1 1 (by omega)) (pm.1 3 (by omega)) (fun i hi => (pm.2.1 i hi).2)
theorem CurR.scr {m : Nat} {F G : Nat → Nat → Int32} {L : Nat → Nat → Option Nat} {T : Nat → Nat} {P : Nat → Nat} (pv : PV P) (pm : PM (F 53) P) (pc : PC m F L T 4 P) (e4 : G 4 = F 4) (e6 : ∀ j, j < P 4 → G 8 j = F 8 j) (e45 : ∀ i, i < 13 + P 4 → G 53 i = F 53 i) (et : ∀ t, 62 ≤ t → G t = F t) (ew : G 6 = F 6) (s : SoonR G P) : CurR m G L T := by
  refine ⟨P, pv, ⟨fun i hi => ?_, fun i hi => ?_, fun j hj => ?_⟩, pc.same e4 et e6 ew, s⟩
  · rw [e45 i (by omega)]; exact pm.1 i hi
  · have := pv.2.2.2.1
    rw [e45 _ (by omega), e45 _ (by omega)]; exact pm.2.1 i hi
  · rw [e45 _ (by omega)]; exact pm.2.2 j hj
theorem Rel.scr3 {m : Nat} {F G : Nat → Nat → Int32} {L : Nat → Nat → Option Nat} {T : Nat → Nat} {P : Nat → Nat} (R : Rel m F L T) (pv : PV P) (pm : PM (F 53) P) (pc : PC m F L T 4 P) (s : SoonR G P) (e : ∀ p, (p = 3 ∨ p = 6 ∨ p = 22 ∨ 23 ≤ p ∧ p ≤ 48 ∨ 50 ≤ p ∧ p ≤ 52 ∨ p = 55 ∨ 59 ≤ p) → G p = F p) (e4 : G 4 = F 4) (e6 : ∀ j, j < P 4 → G 8 j = F 8 j) (e45 : ∀ i, i < 13 + P 4 → G 53 i = F 53 i) (e7 : G 0 7 = G 49 9) (e8 : G 0 8 = G 49 1) (t1 : G 2 1 = F 2 1) (t2 : G 49 8 = F 49 8) (a1 : G 21 0 = F 21 0) (a2 : G 49 30 = F 49 30) : Rel m G L T :=
  R.scr (fun p hp => e p (by omega)) (CurR.scr pv pm pc e4 e6 e45 (fun t ht => e t (by omega)) (e _ (by omega)) s) e7 e8 t1 t2 a1 a2
theorem SoonR.same {F G : Nat → Nat → Int32} {P : Nat → Nat} (h : SoonR F P) (e : G 15 = F 15) : SoonR G P := by
  unfold SoonR
  rw [e]
  exact h
/-- the reference has laid its weights: the relation stays -/
theorem Rel.lay {m : Nat} {F G : Nat → Nat → Int32} {L : Nat → Nat → Option Nat} {T : Nat → Nat} (R : Rel m F L T) (h : Lay F G) : Rel m G L T := by
  obtain ⟨P, pv, pm, pc, sr⟩ := R.2.2.1
  refine R.scr3 pv pm pc (sr.same (h.1 15 (by decide) (by decide))) (fun p hp => h.1 p (by omega) (by omega)) (h.1 4 (by decide) (by decide)) (fun j _ => by rw [h.1 8 (by decide) (by decide)]) (fun i _ => by rw [h.1 53 (by decide) (by decide)]) ?_ ?_ (by rw [h.1 2 (by decide) (by decide)]) (h.2 8 (by decide) (by decide) (by decide)) (by rw [h.1 21 (by decide) (by decide)]) (h.2 30 (by decide) (by decide) (by decide))
  · rw [h.1 0 (by decide) (by decide), h.2 9 (by decide) (by decide) (by decide)]; exact R.2.2.2.2.1
  · rw [h.1 0 (by decide) (by decide), h.2 1 (by decide) (by decide) (by decide)]; exact R.2.2.2.2.2.1
section THs
variable {N m : Nat} {F : Nat → Nat → Int32} {L : Nat → Nat → Option Nat} {T : Nat → Nat} {P S : Nat → Nat} {D : Nat}
theorem C_thing_n {b : Int32} (h4 : F 4 4 = nI (P 3)) (h : b < 0 ∨ nI (P 3) ≤ b) : f_X2_thingAt N (Hp m F L T) (some 4) b = some (none, Hp m F L T) := by
  by_cases hb : b < 0
  · simp only [f_X2_thingAt, f_X2_thingAt_0, f_X2_thingAt_21, f_X2_thingAt_22, hb, gI_0, gI_2, gI_4, gI_9, gI_15, gI_21, gI_49, gP_0, gP_2, gP_4, gP_9, gP_15, gP_21, gP_49, gR_0, gR_2, gR_4, gR_9, gR_15, gR_21, gR_49, gL_53, gL_54, oPz_0, oPz_1, Option.bind_some, c10, c01, cm1, c00, if_true, if_false, ne_eq, not_true_eq_false, not_false_eq_true]
  · have hb2 : nI (P 3) ≤ b := by rcases h with h | h; exact absurd h hb; exact h
    simp only [f_X2_thingAt, f_X2_thingAt_0, f_X2_thingAt_21, f_X2_thingAt_22, hb, h4, hb2, gI_0, gI_2, gI_4, gI_9, gI_15, gI_21, gI_49, gP_0, gP_2, gP_4, gP_9, gP_15, gP_21, gP_49, gR_0, gR_2, gR_4, gR_9, gR_15, gR_21, gR_49, gL_53, gL_54, oPz_0, oPz_1, Option.bind_some, c10, c01, cm1, c00, if_true, if_false, ne_eq, not_true_eq_false, not_false_eq_true]
theorem C_thing_y {i : Nat} (h3 : P 3 ≤ 4) (h4 : F 4 4 = nI (P 3)) (h : i < P 3) : f_X2_thingAt N (Hp m F L T) (some 4) (nI i) = some (L 7 i, Hp m F L T) := by
  have h1 : ¬ nI i < 0 := nI_pos (by omega)
  have h2 : ¬ nI (P 3) ≤ nI i := nI_ge h (by omega)
  simp only [f_X2_thingAt, f_X2_thingAt_0, f_X2_thingAt_21, f_X2_thingAt_22, h1, h2, h4, gN_7 (show i < 4 by omega), gI_0, gI_2, gI_4, gI_9, gI_15, gI_21, gI_49, gP_0, gP_2, gP_4, gP_9, gP_15, gP_21, gP_49, gR_0, gR_2, gR_4, gR_9, gR_15, gR_21, gR_49, gL_53, gL_54, oPz_0, oPz_1, Option.bind_some, c10, c01, cm1, c00, if_true, if_false, ne_eq, not_true_eq_false, not_false_eq_true]
theorem M_thing_n {b : Int32} (h3 : P 3 ≤ 4) (h4 : F 53 3 = nI (P 3)) (h : b < 0 ∨ nI (P 3) ≤ b) : f_X12_isThing N (Hp m F L T) (some 49) b = some (0, Hp m F L T) := by
  simp only [f_X12_isThing, f_X12_isThing_0, h4, X12_in_n h (show P 3 < 2 ^ 30 by omega), true_or, gI_0, gI_2, gI_4, gI_9, gI_15, gI_21, gI_49, gP_0, gP_2, gP_4, gP_9, gP_15, gP_21, gP_49, gR_0, gR_2, gR_4, gR_9, gR_15, gR_21, gR_49, gL_53, gL_54, oPz_0, oPz_1, Option.bind_some, c10, c01, cm1, c00, if_true, if_false, ne_eq, not_true_eq_false, not_false_eq_true]
theorem M_thing_y {i : Nat} (h3 : P 3 ≤ 4) (h4 : F 53 3 = nI (P 3)) (h : i < P 3) : f_X12_isThing N (Hp m F L T) (some 49) (nI i) = some (1, Hp m F L T) := by
  simp only [f_X12_isThing, f_X12_isThing_0, h4, X12_in_y h (show P 3 < 2 ^ 30 by omega), or_true, gI_0, gI_2, gI_4, gI_9, gI_15, gI_21, gI_49, gP_0, gP_2, gP_4, gP_9, gP_15, gP_21, gP_49, gR_0, gR_2, gR_4, gR_9, gR_15, gR_21, gR_49, gL_53, gL_54, oPz_0, oPz_1, Option.bind_some, c10, c01, cm1, c00, if_true, if_false, ne_eq, not_true_eq_false, not_false_eq_true]
theorem C_day_n {b : Int32} (h4 : F 4 5 = nI (P 4)) (h : b < 0 ∨ nI (P 4) ≤ b) : f_X2_hasDay N (Hp m F L T) (some 4) b = some (0, Hp m F L T) := by
  by_cases hb : b < 0
  · simp only [f_X2_hasDay, f_X2_hasDay_0, f_X2_hasDay_16, f_X2_hasDay_17, hb, true_or, gI_0, gI_2, gI_4, gI_9, gI_15, gI_21, gI_49, gP_0, gP_2, gP_4, gP_9, gP_15, gP_21, gP_49, gR_0, gR_2, gR_4, gR_9, gR_15, gR_21, gR_49, gL_53, gL_54, oPz_0, oPz_1, Option.bind_some, c10, c01, cm1, c00, if_true, if_false, ne_eq, not_true_eq_false, not_false_eq_true]
  · have hb2 : nI (P 4) ≤ b := by rcases h with h | h; exact absurd h hb; exact h
    simp only [f_X2_hasDay, f_X2_hasDay_0, f_X2_hasDay_16, f_X2_hasDay_17, hb, h4, hb2, true_or, gI_0, gI_2, gI_4, gI_9, gI_15, gI_21, gI_49, gP_0, gP_2, gP_4, gP_9, gP_15, gP_21, gP_49, gR_0, gR_2, gR_4, gR_9, gR_15, gR_21, gR_49, gL_53, gL_54, oPz_0, oPz_1, Option.bind_some, c10, c01, cm1, c00, if_true, if_false, ne_eq, not_true_eq_false, not_false_eq_true]
theorem C_day_y {i : Nat} (h3 : P 4 ≤ 24) (h4 : F 4 5 = nI (P 4)) (h : i < P 4) : f_X2_hasDay N (Hp m F L T) (some 4) (nI i) = some (1, Hp m F L T) := by
  have h1 : ¬ nI i < 0 := nI_pos (by omega)
  have h2 : ¬ nI (P 4) ≤ nI i := nI_ge h (by omega)
  simp only [f_X2_hasDay, f_X2_hasDay_0, f_X2_hasDay_16, f_X2_hasDay_17, h1, h2, h4, or_true, gI_0, gI_2, gI_4, gI_9, gI_15, gI_21, gI_49, gP_0, gP_2, gP_4, gP_9, gP_15, gP_21, gP_49, gR_0, gR_2, gR_4, gR_9, gR_15, gR_21, gR_49, gL_53, gL_54, oPz_0, oPz_1, Option.bind_some, c10, c01, cm1, c00, if_true, if_false, ne_eq, not_true_eq_false, not_false_eq_true]
theorem M_day_n {b : Int32} (h3 : P 4 ≤ 24) (h4 : F 53 4 = nI (P 4)) (h : b < 0 ∨ nI (P 4) ≤ b) : f_X12_isDay N (Hp m F L T) (some 49) b = some (0, Hp m F L T) := by
  simp only [f_X12_isDay, f_X12_isDay_0, h4, X12_in_n h (show P 4 < 2 ^ 30 by omega), true_or, gI_0, gI_2, gI_4, gI_9, gI_15, gI_21, gI_49, gP_0, gP_2, gP_4, gP_9, gP_15, gP_21, gP_49, gR_0, gR_2, gR_4, gR_9, gR_15, gR_21, gR_49, gL_53, gL_54, oPz_0, oPz_1, Option.bind_some, c10, c01, cm1, c00, if_true, if_false, ne_eq, not_true_eq_false, not_false_eq_true]
theorem M_day_y {i : Nat} (h3 : P 4 ≤ 24) (h4 : F 53 4 = nI (P 4)) (h : i < P 4) : f_X12_isDay N (Hp m F L T) (some 49) (nI i) = some (1, Hp m F L T) := by
  simp only [f_X12_isDay, f_X12_isDay_0, h4, X12_in_y h (show P 4 < 2 ^ 30 by omega), or_true, gI_0, gI_2, gI_4, gI_9, gI_15, gI_21, gI_49, gP_0, gP_2, gP_4, gP_9, gP_15, gP_21, gP_49, gR_0, gR_2, gR_4, gR_9, gR_15, gR_21, gR_49, gL_53, gL_54, oPz_0, oPz_1, Option.bind_some, c10, c01, cm1, c00, if_true, if_false, ne_eq, not_true_eq_false, not_false_eq_true]
end THs
theorem X12_in03 {N : Nat} {A : hP} {b : Int32} : f_X12_in N A b.toInt64 (0 : Int64) (3 : Int64) = some (bI ((0 : Int32) ≤ b ∧ b ≤ 3), A) := X12_in32 N A b 0 3
theorem o_shown (N : Nat) (hN : 5000 ≤ N) (m : Nat) (F : Nat → Nat → Int32) (L : Nat → Nat → Option Nat) (T : Nat → Nat) (hm : m ≤ 3000) (R : Rel m F L T) (a b : Int32) : OpOk (fun A => f_X11_shown N A (some 0) a b) (fun A => f_X12_shown N A (some 49) a b) m F L T := by
  obtain ⟨P, pv, pm, pc, sr⟩ := R.2.2.1
  have v4 : P 4 ≤ 24 := pv.2.2.2.2.1
  have c5 : F 4 5 = nI (P 4) := pc.2.2.2.2.2.1
  have m4 : up2 F 49 0 0 53 4 = nI (P 4) := by simp (disch := omega) only [up2_ne, up2_o, up2_s]; exact pm.1 4 (by omega)
  have bad : (a < 0 ∨ nI (P 4) ≤ a) → OpOk (fun A => f_X11_shown N A (some 0) a b) (fun A => f_X12_shown N A (some 49) a b) m F L T := by
    intro h
    refine ⟨-1000001, m, F, L, T, up2 F 49 0 0, ?_, ?_, R.thr 0, by omega⟩
    · simp only [f_X11_shown, f_X11_shown_0, C_day_n c5 h, gI_0, gI_2, gI_4, gI_9, gI_15, gI_21, gI_49, gP_0, gP_2, gP_4, gP_9, gP_15, gP_21, gP_49, gR_0, gR_2, gR_4, gR_9, gR_15, gR_21, gR_49, gL_53, gL_54, oPz_0, oPz_1, Option.bind_some, c10, c01, cm1, c00, if_true, if_false, ne_eq, not_true_eq_false, not_false_eq_true]
    · simp only [f_X12_shown, f_X12_shown_0, f_X12_shown_25, M_day_n v4 m4 h, gI_0, gI_2, gI_4, gI_9, gI_15, gI_21, gI_49, gP_0, gP_2, gP_4, gP_9, gP_15, gP_21, gP_49, gR_0, gR_2, gR_4, gR_9, gR_15, gR_21, gR_49, gL_53, gL_54, oPz_0, oPz_1, Option.bind_some, c10, c01, cm1, c00, if_true, if_false, ne_eq, not_true_eq_false, not_false_eq_true]
  rcases pk_ix a (n := P 4) (by omega) with h | h | ⟨d, hd, rfl⟩
  · exact bad (Or.inl h)
  · exact bad (Or.inr h)
  clear bad
  have hp2 : P 2 ≠ 0 := fun h => by have := pv.2.2.2.2.2.1 h; omega
  have cv := CV_of pv pc
  have mv := MV_of pv pm
  have pm' : PM (up2 F 49 0 0 53) P := by rw [up2_ne (by decide)]; exact pm
  obtain ⟨G, g1, g2, g3⟩ := M_truly' (N := N) (m := m) (F := up2 F 49 0 0) (L := L) (T := T) hN pv pm'
  have g45 : G 53 = F 53 := by rw [g2.1 53 (by decide) (by decide)]; simp (disch := omega) only [up2_ne, up2_o, up2_s]
  have mvG := mv.same g45
  have bad2 : ¬ ((0 : Int32) ≤ b ∧ b ≤ 3) → OpOk (fun A => f_X11_shown N A (some 0) (nI d) b) (fun A => f_X12_shown N A (some 49) (nI d) b) m F L T := by
    intro h
    refine ⟨-1000001, m, F, L, T, up2 F 49 0 0, ?_, ?_, R.thr 0, by omega⟩
    · have b0 : ¬ b = 0 := fun q => h (by rw [q]; decide)
      have b1 : ¬ b = 1 := fun q => h (by rw [q]; decide)
      have b2 : ¬ b = 2 := fun q => h (by rw [q]; decide)
      have b3 : ¬ b = 3 := fun q => h (by rw [q]; decide)
      simp only [f_X11_shown, f_X11_shown_0, C_day_y v4 c5 hd, b0, b1, b2, b3, gI_0, gI_2, gI_4, gI_9, gI_15, gI_21, gI_49, gP_0, gP_2, gP_4, gP_9, gP_15, gP_21, gP_49, gR_0, gR_2, gR_4, gR_9, gR_15, gR_21, gR_49, gL_53, gL_54, oPz_0, oPz_1, Option.bind_some, c10, c01, cm1, c00, if_true, if_false, ne_eq, not_true_eq_false, not_false_eq_true]
    · simp only [f_X12_shown, f_X12_shown_0, f_X12_shown_25, M_day_y v4 m4 hd, X12_in03, bI_f h, gI_0, gI_2, gI_4, gI_9, gI_15, gI_21, gI_49, gP_0, gP_2, gP_4, gP_9, gP_15, gP_21, gP_49, gR_0, gR_2, gR_4, gR_9, gR_15, gR_21, gR_49, gL_53, gL_54, oPz_0, oPz_1, Option.bind_some, c10, c01, cm1, c00, if_true, if_false, ne_eq, not_true_eq_false, not_false_eq_true]
  by_cases hb : (0 : Int32) ≤ b ∧ b ≤ 3
  case neg => exact bad2 hb
  clear bad2
  obtain ⟨k, hk, rfl⟩ := nI_of2 (M := 3) (n := 3) (by decide) (Int32.not_lt.mpr hb.1) hb.2
  rcases (show k = 0 ∨ k = 1 ∨ k = 2 ∨ k = 3 by omega) with rfl | rfl | rfl | rfl
  · refine ⟨nI (setN P d), m, F, L, T, G, ?_, ?_, (R.thr 0).lay g2, by omega⟩
    · simp only [f_X11_shown, f_X11_shown_0, C_day_y v4 c5 hd, show nI 0 = 0 from rfl, (gN_8 (show d < 26 by omega)).1, (cv.2.2.2.2.2.2.2.2.2.2.2.1 d hd).1, gI_0, gI_2, gI_4, gI_9, gI_15, gI_21, gI_49, gP_0, gP_2, gP_4, gP_9, gP_15, gP_21, gP_49, gR_0, gR_2, gR_4, gR_9, gR_15, gR_21, gR_49, gL_53, gL_54, oPz_0, oPz_1, Option.bind_some, c10, c01, cm1, c00, if_true, if_false, ne_eq, not_true_eq_false, not_false_eq_true]
    · simp only [f_X12_shown, f_X12_shown_0, f_X12_shown_87, M_day_y v4 m4 hd, X12_in03, show bI ((0 : Int32) ≤ (0 : Int32) ∧ (0 : Int32) ≤ 3) = 1 by decide, g1, show nI 0 = 0 from rfl, ix13, (gN_53 (show 13 + d < 39 by omega)).1, (mvG.2.2.2.2.2.2.1 d hd).1, gI_0, gI_2, gI_4, gI_9, gI_15, gI_21, gI_49, gP_0, gP_2, gP_4, gP_9, gP_15, gP_21, gP_49, gR_0, gR_2, gR_4, gR_9, gR_15, gR_21, gR_49, gL_53, gL_54, oPz_0, oPz_1, Option.bind_some, c10, c01, cm1, c00, if_true, if_false, ne_eq, not_true_eq_false, not_false_eq_true]
  · refine ⟨nI (loadN P (setN P d) (truN P) d), m, F, L, T, G, ?_, ?_, (R.thr 0).lay g2, by omega⟩
    · simp only [f_X11_shown, f_X11_shown_0, C_day_y v4 c5 hd, show nI 1 = 1 from rfl, C_load hN cv hd, gI_0, gI_2, gI_4, gI_9, gI_15, gI_21, gI_49, gP_0, gP_2, gP_4, gP_9, gP_15, gP_21, gP_49, gR_0, gR_2, gR_4, gR_9, gR_15, gR_21, gR_49, gL_53, gL_54, oPz_0, oPz_1, Option.bind_some, c10, c01, cm1, c00, if_true, if_false, ne_eq, not_true_eq_false, not_false_eq_true]
    · simp only [f_X12_shown, f_X12_shown_0, f_X12_shown_87, M_day_y v4 m4 hd, X12_in03, show bI ((0 : Int32) ≤ (1 : Int32) ∧ (1 : Int32) ≤ 3) = 1 by decide, g1, show nI 1 = 1 from rfl, M_load hN mvG g3 hd, show ¬ d = 1000 by omega, Nat.add_zero, gI_0, gI_2, gI_4, gI_9, gI_15, gI_21, gI_49, gP_0, gP_2, gP_4, gP_9, gP_15, gP_21, gP_49, gR_0, gR_2, gR_4, gR_9, gR_15, gR_21, gR_49, gL_53, gL_54, oPz_0, oPz_1, Option.bind_some, c10, c01, cm1, c00, if_true, if_false, ne_eq, not_true_eq_false, not_false_eq_true]
  · refine ⟨nI (shT P (setN P) d), m, F, L, T, G, ?_, ?_, (R.thr 0).lay g2, by omega⟩
    · simp only [f_X11_shown, f_X11_shown_0, C_day_y v4 c5 hd, show nI 2 = 2 from rfl, show ¬ (2 : Int32) = 0 by decide, show ¬ (2 : Int32) = 1 by decide, C_shownOn hN cv hd, gI_0, gI_2, gI_4, gI_9, gI_15, gI_21, gI_49, gP_0, gP_2, gP_4, gP_9, gP_15, gP_21, gP_49, gR_0, gR_2, gR_4, gR_9, gR_15, gR_21, gR_49, gL_53, gL_54, oPz_0, oPz_1, Option.bind_some, c10, c01, cm1, c00, if_true, if_false, ne_eq, not_true_eq_false, not_false_eq_true]
    · simp only [f_X12_shown, f_X12_shown_0, f_X12_shown_87, M_day_y v4 m4 hd, X12_in03, show bI ((0 : Int32) ≤ (2 : Int32) ∧ (2 : Int32) ≤ 3) = 1 by decide, g1, show nI 2 = 2 from rfl, show ¬ (2 : Int32) = 0 by decide, show ¬ (2 : Int32) = 1 by decide, M_shows hN mvG hp2 g3 hd, gI_0, gI_2, gI_4, gI_9, gI_15, gI_21, gI_49, gP_0, gP_2, gP_4, gP_9, gP_15, gP_21, gP_49, gR_0, gR_2, gR_4, gR_9, gR_15, gR_21, gR_49, gL_53, gL_54, oPz_0, oPz_1, Option.bind_some, c10, c01, cm1, c00, if_true, if_false, ne_eq, not_true_eq_false, not_false_eq_true]
      rfl
  · refine ⟨bB (freshN P (setN P d)), m, F, L, T, G, ?_, ?_, (R.thr 0).lay g2, by omega⟩
    · simp only [f_X11_shown, f_X11_shown_0, f_X11_shown_88, C_day_y v4 c5 hd, show nI 3 = 3 from rfl, show ¬ (3 : Int32) = 0 by decide, show ¬ (3 : Int32) = 1 by decide, show ¬ (3 : Int32) = 2 by decide, C_fresh cv hd, gI_0, gI_2, gI_4, gI_9, gI_15, gI_21, gI_49, gP_0, gP_2, gP_4, gP_9, gP_15, gP_21, gP_49, gR_0, gR_2, gR_4, gR_9, gR_15, gR_21, gR_49, gL_53, gL_54, oPz_0, oPz_1, Option.bind_some, c10, c01, cm1, c00, if_true, if_false, ne_eq, not_true_eq_false, not_false_eq_true]
      cases freshN P (setN P d) <;> simp [bB]
    · simp only [f_X12_shown, f_X12_shown_0, f_X12_shown_87, M_day_y v4 m4 hd, X12_in03, show bI ((0 : Int32) ≤ (3 : Int32) ∧ (3 : Int32) ≤ 3) = 1 by decide, g1, show nI 3 = 3 from rfl, show ¬ (3 : Int32) = 0 by decide, show ¬ (3 : Int32) = 1 by decide, show ¬ (3 : Int32) = 2 by decide, M_fresh hN mvG hd, gI_0, gI_2, gI_4, gI_9, gI_15, gI_21, gI_49, gP_0, gP_2, gP_4, gP_9, gP_15, gP_21, gP_49, gR_0, gR_2, gR_4, gR_9, gR_15, gR_21, gR_49, gL_53, gL_54, oPz_0, oPz_1, Option.bind_some, c10, c01, cm1, c00, if_true, if_false, ne_eq, not_true_eq_false, not_false_eq_true]
      cases freshN P (setN P d) <;> simp [bB]
theorem o_kind (N : Nat) (hN : 5000 ≤ N) (m : Nat) (F : Nat → Nat → Int32) (L : Nat → Nat → Option Nat) (T : Nat → Nat) (hm : m ≤ 3000) (R : Rel m F L T) (a : Int32) : OpOk (fun A => f_X11_kind N A (some 0) a) (fun A => f_X12_kind N A (some 49) a) m F L T := by
  obtain ⟨P, pv, pm, pc, sr⟩ := R.2.2.1
  have v3 : P 3 ≤ 4 := pv.2.2.2.1
  have c4 : F 4 4 = nI (P 3) := pc.2.2.2.2.1
  have m3 : up2 F 49 0 0 53 3 = nI (P 3) := by simp (disch := omega) only [up2_ne, up2_o, up2_s]; exact pm.1 3 (by omega)
  have bad : (a < 0 ∨ nI (P 3) ≤ a) → OpOk (fun A => f_X11_kind N A (some 0) a) (fun A => f_X12_kind N A (some 49) a) m F L T := by
    intro h
    refine ⟨-1000001, m, F, L, T, up2 F 49 0 0, ?_, ?_, R.thr 0, by omega⟩
    · simp only [f_X11_kind, f_X11_kind_0, f_X11_kind_22, C_thing_n c4 h, gI_0, gI_2, gI_4, gI_9, gI_15, gI_21, gI_49, gP_0, gP_2, gP_4, gP_9, gP_15, gP_21, gP_49, gR_0, gR_2, gR_4, gR_9, gR_15, gR_21, gR_49, gL_53, gL_54, oPz_0, oPz_1, Option.bind_some, c10, c01, cm1, c00, if_true, if_false, ne_eq, not_true_eq_false, not_false_eq_true]
    · simp only [f_X12_kind, f_X12_kind_0, f_X12_kind_23, M_thing_n v3 m3 h, gI_0, gI_2, gI_4, gI_9, gI_15, gI_21, gI_49, gP_0, gP_2, gP_4, gP_9, gP_15, gP_21, gP_49, gR_0, gR_2, gR_4, gR_9, gR_15, gR_21, gR_49, gL_53, gL_54, oPz_0, oPz_1, Option.bind_some, c10, c01, cm1, c00, if_true, if_false, ne_eq, not_true_eq_false, not_false_eq_true]
  rcases pk_ix a (n := P 3) (by omega) with h | h | ⟨i, hi, rfl⟩
  · exact bad (Or.inl h)
  · exact bad (Or.inr h)
  obtain ⟨t, q1, q2, q3, q4, q5, q6⟩ := pc.2.2.2.2.2.2.2.1 i hi
  have q1' : L 7 i = some t := q1
  have e : up2 F 49 0 0 53 (5 + 2 * i) = nI (P (5 + 2 * i)) := by simp (disch := omega) only [up2_ne, up2_o, up2_s]; exact (pm.2.1 i hi).1
  obtain ⟨k1, k2, -⟩ := pv.2.2.2.2.2.2.2.1 i hi
  refine ⟨nI (P (5 + 2 * i)), m, F, L, T, up2 F 49 0 0, ?_, ?_, R.thr 0, by omega⟩
  · simp only [f_X11_kind, f_X11_kind_0, f_X11_kind_22, C_thing_y v3 c4 hi, q1', v_X7_kindNumber, gT_th q2 q3, q4, reduceCtorEq, gI_0, gI_2, gI_4, gI_9, gI_15, gI_21, gI_49, gP_0, gP_2, gP_4, gP_9, gP_15, gP_21, gP_49, gR_0, gR_2, gR_4, gR_9, gR_15, gR_21, gR_49, gL_53, gL_54, oPz_0, oPz_1, Option.bind_some, c10, c01, cm1, c00, if_true, if_false, ne_eq, not_true_eq_false, not_false_eq_true]
    generalize P (5 + 2 * i) = k at *
    rcases (show k = 1 ∨ k = 2 ∨ k = 3 ∨ k = 4 ∨ k = 5 by omega) with rfl | rfl | rfl | rfl | rfl <;> rfl
  · simp only [f_X12_kind, f_X12_kind_0, f_X12_kind_23, M_thing_y v3 m3 hi, f_X12_kindOf, f_X12_kindOf_0, ix5, (gN_53 (show 5 + 2 * i < 39 by omega)).1, e, gI_0, gI_2, gI_4, gI_9, gI_15, gI_21, gI_49, gP_0, gP_2, gP_4, gP_9, gP_15, gP_21, gP_49, gR_0, gR_2, gR_4, gR_9, gR_15, gR_21, gR_49, gL_53, gL_54, oPz_0, oPz_1, Option.bind_some, c10, c01, cm1, c00, if_true, if_false, ne_eq, not_true_eq_false, not_false_eq_true]
