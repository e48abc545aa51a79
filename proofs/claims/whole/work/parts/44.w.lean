theorem one_al {P S S' : Nat → Nat} {d : Nat} (pv : PV P) (hS : ∀ e, e < d → S e = S' e) : oneT P S' (d + 1) ↔ ∀ x, x < 8 ^ P 3 → fitT P S d x → x ≠ truW P → ¬ shW P S' x d = shW P S' (truW P) d := by
  rw [oneT_iff pv]
  constructor
  · intro h x hx hf hne hs
    apply hne
    refine h x hx (fitT_s.mpr ⟨(fitT_c hS).mp hf, ?_⟩)
    rw [hs, shW_tru pv]
  · intro h y hy hf
    obtain ⟨h1, h2⟩ := fitT_s.mp hf
    by_cases q : y = truW P
    · exact q
    · exact absurd (by rw [h2, shW_tru pv]) (h y hy ((fitT_c hS).mpr h1) q)
theorem CV_c {m : Nat} {F : Nat → Nat → Int32} {L : Nat → Nat → Option Nat} {T : Nat → Nat} {P S S' : Nat → Nat} {D : Nat} (h : CV m F L T P S D) (hS : ∀ e, e < D → S e = S' e) : CV m F L T P S' D := by
  obtain ⟨a1, a2, a3, a4, a5, a6, a7, a8, a9, a10, a11, a12, a13⟩ := h
  exact ⟨a1, a2, a3, a4, a5, a6, a7, a8, a9, a10, a11, fun d hd => by rw [← hS d hd]; exact a12 d hd, a13⟩
theorem S1_lt {P : Nat → Nat} {a e : Nat} (h : e < P 4) : S1 P a e = setN P e := by
  unfold S1 setN
  rw [if_neg (by omega)]
theorem S1_eq {P : Nat → Nat} {a : Nat} : S1 P a (P 4) = a := by
  unfold S1
  rw [if_pos rfl]
theorem S2_lt {P : Nat → Nat} {a b e : Nat} (h : e < P 4 + 1) : S2 P a b e = S1 P a e := by
  unfold S2 S1
  by_cases q : e = P 4
  · rw [if_pos q, if_pos q]
  · rw [if_neg q, if_neg q, if_neg (by omega)]
theorem S2_eq {P : Nat → Nat} {a b : Nat} : S2 P a b (P 4 + 1) = b := by
  unfold S2
  rw [if_neg (by omega), if_pos rfl]
section SP
variable {N m : Nat} {L : Nat → Nat → Option Nat} {T : Nat → Nat} {P : Nat → Nat}
/-- the worlds' state while days are tried -/
def SC (m : Nat) (F : Nat → Nat → Int32) (L : Nat → Nat → Option Nat) (T : Nat → Nat) (P : Nat → Nat) (c : Nat) : Prop := CV m F L T P (setN P) (P 4) ∧ (∀ e, e < P 4 → dayT F P (setN P) e) ∧ F 15 4 = nI (P 1) ∧ F 15 5 = nI (P 2) ∧ F 15 6 = nI (P 4) ∧ c ≤ 4096 ∧ FS F P c (fitT P (setN P) (P 4))
/-- what trying may change -/
def scr (F G : Nat → Nat → Int32) (P : Nat → Nat) : Prop := (∀ p, p ≠ 8 → p ≠ 15 → p ≠ 16 → p ≠ 17 → p ≠ 18 → p ≠ 20 → G p = F p) ∧ ∀ j, j < P 4 → G 8 j = F 8 j
theorem scr.trans {F G H : Nat → Nat → Int32} (h1 : scr F G P) (h2 : scr G H P) : scr F H P :=
  ⟨fun p p1 p2 p3 p4 p5 p6 => by rw [h2.1 p p1 p2 p3 p4 p5 p6, h1.1 p p1 p2 p3 p4 p5 p6], fun j hj => by rw [h2.2 j hj, h1.2 j hj]⟩
theorem C_one_l {c : Nat} (hN : 5000 ≤ N) (pv : PV P) : ∀ (n a : Nat) (F : Nat → Nat → Int32), SC m F L T P c → no1 P a → a ≤ 2 ^ P 3 → 2 ^ P 3 < a + n → ∃ G r, f_X10_findOneDay_3 N n (Hp m F L T) (some 15) (some 4) (nI c) (nI (truW P)) (nI a) = some (bB r, Hp m G L T) ∧ scr F G P ∧ G 15 1 = F 15 1 ∧ (r = true → ∃ x, x < 2 ^ P 3 ∧ no1 P x ∧ oneT P (S1 P x) (P 4 + 1) ∧ G 15 0 = 1 ∧ G 15 2 = nI x) ∧ (r = false → no1 P (2 ^ P 3) ∧ G 15 0 = F 15 0 ∧ SC m G L T P c) := by
  have v3 : P 3 ≤ 4 := pv.2.2.2.1
  have v4 : P 4 ≤ 24 := pv.2.2.2.2.1
  have hp := pw16 v3
  intro n
  induction n with
  | zero => intro a F _ _ h1 h2; omega
  | succ n ih =>
    intro a F sc hno h1 h2
    have sc0 := sc
    obtain ⟨cv, ht, f4, f5, f6, hc, fs⟩ := sc
    have c4 := cv.2.2.2.2.2.2.2.2.1
    rw [f_X10_findOneDay_3]
    simp only [f_X2_allThings, f_X2_allThings_0, c4, all_e v3, gI_0, gI_2, gI_4, gI_9, gI_15, gI_21, gI_49, gP_0, gP_2, gP_4, gP_9, gP_15, gP_21, gP_49, gR_0, gR_2, gR_4, gR_9, gR_15, gR_21, gR_49, gL_53, gL_54, oPz_0, oPz_1, Option.bind_some, c10, c01, cm1, c00, if_true, if_false, ne_eq, not_true_eq_false, not_false_eq_true]
    by_cases ha : a = 2 ^ P 3
    · have hpos := Nat.one_le_two_pow (n := P 3)
      rw [if_pos (nI_lt (by omega) (by omega)), if_pos (Or.inl trivial)]
      refine ⟨F, false, rfl, ⟨fun _ _ _ _ _ _ _ => rfl, fun _ _ => rfl⟩, rfl, fun h => absurd h (by decide), fun _ => ⟨by rw [← ha]; exact hno, rfl, sc0⟩⟩
    · rw [if_neg (nI_nlt (by omega) (by omega))]
      obtain ⟨G, g1, g2, g3, g4, g5⟩ := C_try (N := N) (S' := S1 P a) (d := P 4) (a := a) hN cv (by omega) (by omega) S1_eq (fun e he => S1_lt he) ht
      have u6 : up2 F 8 (P 4) (nI a) 15 6 = nI (P 4) := by rw [up2_ne (by decide)]; exact f6
      have g11 := g4 15 (by decide) (by decide) (by decide) (by decide)
      have k4 : G 15 4 = nI (P 1) := by rw [g11]; exact f4
      have k5 : G 15 5 = nI (P 2) := by rw [g11]; exact f5
      have k6 : G 15 6 = nI (P 4) := by rw [g11]; exact f6
      have fsG : FS G P c (fitT P (setN P) (P 4)) := fs.same (g4 20 (by decide) (by decide) (by decide) (by decide))
      have al := one_al (S := setN P) (S' := S1 P a) (d := P 4) pv (fun e he => (S1_lt he).symm)
      have sF : scr F G P := ⟨fun p p1 p2 p3 p4 p5 p6 => g4 p p1 p3 p4 p5, fun j hj => g5 j (by omega)⟩
      by_cases hone : oneT P (S1 P a) (P 4 + 1)
      · have ea := C_alone (N := N) (m := m) (L := L) (T := T) (S := S1 P a) hN pv k4 k5 g3 (show P 4 ≤ 25 by omega) (truW_lt8 pv) hc fsG true (by simpa using al.mp hone)
        refine ⟨up2 (up2 G 15 0 1) 15 2 (nI a), true, ?_, ⟨fun p p1 p2 p3 p4 p5 p6 => by rw [up2_ne p2, up2_ne p2]; exact sF.1 p p1 p2 p3 p4 p5 p6, fun j hj => by rw [up2_ne (by decide), up2_ne (by decide)]; exact sF.2 j hj⟩, ?_, fun _ => ⟨a, by omega, hno, hone, ?_, ?_⟩, fun h => absurd h (by decide)⟩
        · simp only [(gN_8 (show P 4 < 26 by omega)).2, f6, u6, g1, k6, ea, bB_t, or_true, gI_0, gI_2, gI_4, gI_9, gI_15, gI_21, gI_49, gP_0, gP_2, gP_4, gP_9, gP_15, gP_21, gP_49, gR_0, gR_2, gR_4, gR_9, gR_15, gR_21, gR_49, gL_53, gL_54, oPz_0, oPz_1, Option.bind_some, c10, c01, cm1, c00, if_true, if_false, ne_eq, not_true_eq_false, not_false_eq_true]
        · simp (disch := omega) only [up2_ne, up2_o, up2_s]; rw [g11]
        · simp (disch := omega) only [up2_ne, up2_o, up2_s]
        · simp (disch := omega) only [up2_ne, up2_o, up2_s]
      · have ea := C_alone (N := N) (m := m) (L := L) (T := T) (S := S1 P a) hN pv k4 k5 g3 (show P 4 ≤ 25 by omega) (truW_lt8 pv) hc fsG false ⟨fun h => absurd h (by decide), fun h => absurd (al.mpr h) hone⟩
        have scG : SC m G L T P c := ⟨CV_c (g2.le (by omega)) (fun e he => S1_lt he), fun e he => dayT_c (g3 e (by omega)) (fun u hu => S1_lt (by omega)), k4, k5, k6, hc, fsG⟩
        obtain ⟨H, r, r1, r2, r3, r4, r5⟩ := ih (a + 1) G scG (fun x hx => by
          by_cases q : x = a
          · rw [q]; exact hone
          · exact hno x (by omega)) (by omega) (by omega)
        refine ⟨H, r, ?_, sF.trans r2, by rw [r3, g11], r4, fun h => ?_⟩
        · simp only [(gN_8 (show P 4 < 26 by omega)).2, f6, u6, g1, k6, ea, bB_f, nI_1, gI_0, gI_2, gI_4, gI_9, gI_15, gI_21, gI_49, gP_0, gP_2, gP_4, gP_9, gP_15, gP_21, gP_49, gR_0, gR_2, gR_4, gR_9, gR_15, gR_21, gR_49, gL_53, gL_54, oPz_0, oPz_1, Option.bind_some, c10, c01, cm1, c00, if_true, if_false, ne_eq, not_true_eq_false, not_false_eq_true]
          exact r1
        · obtain ⟨q1, q2, q3⟩ := r5 h
          exact ⟨q1, by rw [q2, g11], q3⟩
theorem C_two_in {c k a : Nat} (hN : 5000 ≤ N) (pv : PV P) (ha : a < 2 ^ P 3) (hk : k ≤ 4096) : ∀ (n b : Nat) (F : Nat → Nat → Int32), CV m F L T P (S1 P a) (P 4 + 1) → (∀ e, e < P 4 + 1 → dayT F P (S1 P a) e) → F 15 4 = nI (P 1) → F 15 5 = nI (P 2) → F 15 6 = nI (P 4) → FS F P k (fitT P (S1 P a) (P 4 + 1)) → no2 P (a * 2 ^ P 3 + b) → b ≤ 2 ^ P 3 → 2 ^ P 3 < b + n → ∃ G, scr F G P ∧ G 15 1 = F 15 1 ∧ G 20 = F 20 ∧ (((∀ r, f_X10_findTwoDays_43 N r n (Hp m F L T) (some 15) (some 4) (nI c) (nI (truW P)) (nI a) (nI k) (nI b) = some ((), Hp m G L T)) ∧ ∃ y, y < 2 ^ P 3 ∧ no2 P (a * 2 ^ P 3 + y) ∧ oneT P (S2 P a y) (P 4 + 2) ∧ G 15 0 = 2 ∧ G 15 2 = nI a ∧ G 15 3 = nI y) ∨ ((∀ r, f_X10_findTwoDays_43 N r n (Hp m F L T) (some 15) (some 4) (nI c) (nI (truW P)) (nI a) (nI k) (nI b) = r (Hp m G L T) (some 15) (some 4) (nI c) (nI (truW P)) (nI (a + 1))) ∧ no2 P ((a + 1) * 2 ^ P 3) ∧ G 15 = F 15 ∧ CV m G L T P (S1 P a) (P 4 + 1) ∧ ∀ e, e < P 4 + 1 → dayT G P (S1 P a) e)) := by
  have v3 : P 3 ≤ 4 := pv.2.2.2.1
  have v4 : P 4 ≤ 24 := pv.2.2.2.2.1
  have hp := pw16 v3
  intro n
  induction n with
  | zero => intro b F _ _ _ _ _ _ _ h1 h2; omega
  | succ n ih =>
    intro b F cv ht f4 f5 f6 fs hno h1 h2
    have c4 := cv.2.2.2.2.2.2.2.2.1
    by_cases hb : b = 2 ^ P 3
    · have hpos := Nat.one_le_two_pow (n := P 3)
      refine ⟨F, ⟨fun _ _ _ _ _ _ _ => rfl, fun _ _ => rfl⟩, rfl, rfl, Or.inr ⟨fun r => ?_, ?_, rfl, cv, ht⟩⟩
      · rw [f_X10_findTwoDays_43]
        simp only [f_X2_allThings, f_X2_allThings_0, c4, all_e v3, gI_0, gI_2, gI_4, gI_9, gI_15, gI_21, gI_49, gP_0, gP_2, gP_4, gP_9, gP_15, gP_21, gP_49, gR_0, gR_2, gR_4, gR_9, gR_15, gR_21, gR_49, gL_53, gL_54, oPz_0, oPz_1, Option.bind_some, c10, c01, cm1, c00, if_true, if_false, ne_eq, not_true_eq_false, not_false_eq_true]
        rw [if_pos (nI_lt (by omega) (by omega)), nI_1]
      · rw [hb] at hno
        rw [Nat.add_mul, Nat.one_mul]
        exact hno
    · obtain ⟨G, g1, g2, g3, g4, g5⟩ := C_try (N := N) (S' := S2 P a b) (d := P 4 + 1) (a := b) hN cv (by omega) (by omega) S2_eq (fun e he => S2_lt he) ht
      have u6 : up2 F 8 (P 4 + 1) (nI b) 15 6 = nI (P 4) := by rw [up2_ne (by decide)]; exact f6
      have g11 := g4 15 (by decide) (by decide) (by decide) (by decide)
      have k4 : G 15 4 = nI (P 1) := by rw [g11]; exact f4
      have k5 : G 15 5 = nI (P 2) := by rw [g11]; exact f5
      have k6 : G 15 6 = nI (P 4) := by rw [g11]; exact f6
      have fsG : FS G P k (fitT P (S1 P a) (P 4 + 1)) := fs.same (g4 20 (by decide) (by decide) (by decide) (by decide))
      have al := one_al (S := S1 P a) (S' := S2 P a b) (d := P 4 + 1) pv (fun e he => (S2_lt he).symm)
      have sF : scr F G P := ⟨fun p p1 p2 p3 p4 p5 p6 => g4 p p1 p3 p4 p5, fun j hj => g5 j (by omega)⟩
      have head : ∀ r, f_X10_findTwoDays_43 N r (n + 1) (Hp m F L T) (some 15) (some 4) (nI c) (nI (truW P)) (nI a) (nI k) (nI b) = (f_X10_isAlone N (Hp m G L T) (some 15) (nI (truW P)) (nI k) (nI (P 4 + 1))).bind fun q5 => if q5.1 = (0) then (f_X10_findTwoDays_43 N r n q5.2 (some 15) (some 4) (nI c) (nI (truW P)) (nI a) (nI k) (nI (b + 1))) else ((oP q5.2 (some 15) 9 0 (.int (2 : Int32))).bind fun A6 => (oP A6 (some 15) 9 2 (.int (nI a))).bind fun A7 => (oP A7 (some 15) 9 3 (.int (nI b))).bind fun A8 => some ((), A8)) := by
        intro r
        rw [f_X10_findTwoDays_43]
        simp only [f_X2_allThings, f_X2_allThings_0, c4, all_e v3, gI_4, gR_4, Option.bind_some]
        rw [if_neg (nI_nlt (by omega) (by omega))]
        simp only [gI_15, gR_15, gR_4, f6, u6, nI_1, (gN_8 (show P 4 + 1 < 26 by omega)).2, g1, k6, Option.bind_some]
      by_cases hone : oneT P (S2 P a b) (P 4 + 2)
      · have ea := C_alone (N := N) (m := m) (L := L) (T := T) (S := S2 P a b) hN pv k4 k5 g3 (show P 4 + 1 ≤ 25 by omega) (truW_lt8 pv) hk fsG true (by simpa using al.mp hone)
        refine ⟨up2 (up2 (up2 G 15 0 2) 15 2 (nI a)) 15 3 (nI b), ⟨fun p p1 p2 p3 p4 p5 p6 => by rw [up2_ne p2, up2_ne p2, up2_ne p2]; exact sF.1 p p1 p2 p3 p4 p5 p6, fun j hj => by rw [up2_ne (by decide), up2_ne (by decide), up2_ne (by decide)]; exact sF.2 j hj⟩, ?_, ?_, Or.inl ⟨fun r => ?_, b, by omega, hno, hone, ?_, ?_, ?_⟩⟩
        · simp (disch := omega) only [up2_ne, up2_o, up2_s]; rw [g11]
        · simp (disch := omega) only [up2_ne, up2_o, up2_s]; exact g4 20 (by decide) (by decide) (by decide) (by decide)
        · rw [head]
          simp only [ea, bB_t, gI_0, gI_2, gI_4, gI_9, gI_15, gI_21, gI_49, gP_0, gP_2, gP_4, gP_9, gP_15, gP_21, gP_49, gR_0, gR_2, gR_4, gR_9, gR_15, gR_21, gR_49, gL_53, gL_54, oPz_0, oPz_1, Option.bind_some, c10, c01, cm1, c00, if_true, if_false, ne_eq, not_true_eq_false, not_false_eq_true]
        · simp (disch := omega) only [up2_ne, up2_o, up2_s]
        · simp (disch := omega) only [up2_ne, up2_o, up2_s]
        · simp (disch := omega) only [up2_ne, up2_o, up2_s]
      · have ea := C_alone (N := N) (m := m) (L := L) (T := T) (S := S2 P a b) hN pv k4 k5 g3 (show P 4 + 1 ≤ 25 by omega) (truW_lt8 pv) hk fsG false ⟨fun h => absurd h (by decide), fun h => absurd (al.mpr h) hone⟩
        obtain ⟨H, r1, r2, r3, r4⟩ := ih (b + 1) G (CV_c (g2.le (by omega)) (fun e he => S2_lt he)) (fun e he => dayT_c (g3 e (by omega)) (fun u hu => S2_lt (by omega))) k4 k5 k6 fsG (fun x y hx hy hxy => by
          by_cases q : x = a ∧ y = b
          · rw [q.1, q.2]; exact hone
          · refine hno x y hx hy ?_
            rcases Nat.lt_trichotomy x a with w | w | w
            · have : (x + 1) * 2 ^ P 3 ≤ a * 2 ^ P 3 := Nat.mul_le_mul_right _ w
              rw [Nat.add_mul] at this
              omega
            · have hy' : y ≠ b := fun e => q ⟨w, e⟩
              rw [w] at hxy ⊢
              omega
            · have : (a + 1) * 2 ^ P 3 ≤ x * 2 ^ P 3 := Nat.mul_le_mul_right _ w
              rw [Nat.add_mul] at this
              omega) (by omega) (by omega)
        have step : ∀ r, f_X10_findTwoDays_43 N r (n + 1) (Hp m F L T) (some 15) (some 4) (nI c) (nI (truW P)) (nI a) (nI k) (nI b) = f_X10_findTwoDays_43 N r n (Hp m G L T) (some 15) (some 4) (nI c) (nI (truW P)) (nI a) (nI k) (nI (b + 1)) := by
          intro r
          rw [head]
          simp only [ea, bB_f, gI_0, gI_2, gI_4, gI_9, gI_15, gI_21, gI_49, gP_0, gP_2, gP_4, gP_9, gP_15, gP_21, gP_49, gR_0, gR_2, gR_4, gR_9, gR_15, gR_21, gR_49, gL_53, gL_54, oPz_0, oPz_1, Option.bind_some, c10, c01, cm1, c00, if_true, if_false, ne_eq, not_true_eq_false, not_false_eq_true]
        refine ⟨H, sF.trans r1, by rw [r2, g11], by rw [r3, g4 20 (by decide) (by decide) (by decide) (by decide)], ?_⟩
        rcases r4 with ⟨w1, w2⟩ | ⟨w1, w2, w3, w4⟩
        · exact Or.inl ⟨fun r => by rw [step, w1], w2⟩
        · exact Or.inr ⟨fun r => by rw [step, w1], w2, by rw [w3, g11], w4⟩
theorem C_two_l {c : Nat} (hN : 5000 ≤ N) (pv : PV P) : ∀ (n a : Nat) (F : Nat → Nat → Int32), SC m F L T P c → no2 P (a * 2 ^ P 3) → a ≤ 2 ^ P 3 → 2 ^ P 3 < a + n → ∃ G, f_X10_findTwoDays_3 N n (Hp m F L T) (some 15) (some 4) (nI c) (nI (truW P)) (nI a) = some ((), Hp m G L T) ∧ scr F G P ∧ G 15 1 = F 15 1 ∧ ((∃ x y, x < 2 ^ P 3 ∧ y < 2 ^ P 3 ∧ no2 P (x * 2 ^ P 3 + y) ∧ oneT P (S2 P x y) (P 4 + 2) ∧ G 15 0 = 2 ∧ G 15 2 = nI x ∧ G 15 3 = nI y) ∨ (no2 P (2 ^ P 3 * 2 ^ P 3) ∧ G 15 0 = F 15 0)) := by
  have v3 : P 3 ≤ 4 := pv.2.2.2.1
  have v4 : P 4 ≤ 24 := pv.2.2.2.2.1
  have hp := pw16 v3
  intro n
  induction n with
  | zero => intro a F _ _ h1 h2; omega
  | succ n ih =>
    intro a F sc hno h1 h2
    obtain ⟨cv, ht, f4, f5, f6, hc, fs⟩ := sc
    have c4 := cv.2.2.2.2.2.2.2.2.1
    rw [f_X10_findTwoDays_3]
    simp only [f_X2_allThings, f_X2_allThings_0, c4, all_e v3, gI_0, gI_2, gI_4, gI_9, gI_15, gI_21, gI_49, gP_0, gP_2, gP_4, gP_9, gP_15, gP_21, gP_49, gR_0, gR_2, gR_4, gR_9, gR_15, gR_21, gR_49, gL_53, gL_54, oPz_0, oPz_1, Option.bind_some, c10, c01, cm1, c00, if_true, if_false, ne_eq, not_true_eq_false, not_false_eq_true]
    by_cases ha : a = 2 ^ P 3
    · have hpos := Nat.one_le_two_pow (n := P 3)
      rw [if_pos (nI_lt (by omega) (by omega))]
      exact ⟨F, rfl, ⟨fun _ _ _ _ _ _ _ => rfl, fun _ _ => rfl⟩, rfl, Or.inr ⟨by rw [ha] at hno; exact hno, rfl⟩⟩
    · rw [if_neg (nI_nlt (by omega) (by omega))]
      obtain ⟨G1, g1, g2, g3, g4, g5⟩ := C_try (N := N) (S' := S1 P a) (d := P 4) (a := a) hN cv (by omega) (by omega) S1_eq (fun e he => S1_lt he) ht
      have u6 : up2 F 8 (P 4) (nI a) 15 6 = nI (P 4) := by rw [up2_ne (by decide)]; exact f6
      have g11 := g4 15 (by decide) (by decide) (by decide) (by decide)
      have k4 : G1 15 4 = nI (P 1) := by rw [g11]; exact f4
      have k5 : G1 15 5 = nI (P 2) := by rw [g11]; exact f5
      have k6 : G1 15 6 = nI (P 4) := by rw [g11]; exact f6
      have fsG : FS G1 P c (fitT P (setN P) (P 4)) := fs.same (g4 20 (by decide) (by decide) (by decide) (by decide))
      obtain ⟨G2, k, b1, b2, b3, b4, b5⟩ := C_bring (N := N) (m := m) (L := L) (T := T) (W := truW P) (S := S1 P a) hN pv (show P 4 ≤ 25 by omega) hc (truW_lt8 pv) k4 k5 k6 g3 fsG
      have hfit : ∀ x, (fitT P (setN P) (P 4) x ∧ shW P (S1 P a) x (P 4) = shW P (S1 P a) (truW P) (P 4)) ↔ fitT P (S1 P a) (P 4 + 1) x := fun x => by
        rw [fitT_s, shW_tru pv, fitT_c (S := setN P) (S' := S1 P a) (fun e he => (S1_lt he).symm)]
      have fsk : FS G2 P k (fitT P (S1 P a) (P 4 + 1)) := by
        obtain ⟨xs, x1, x2⟩ := b5
        exact ⟨xs, fun j hj => by obtain ⟨y1, y2, y3⟩ := x1 j hj; exact ⟨y1, y2, (hfit _).mp y3⟩, fun x hx hQ => x2 x hx ((hfit x).mpr hQ)⟩
      have tab : ∀ p, p ≠ 16 → p ≠ 17 → p ≠ 18 → p ≠ 20 → G2 p = G1 p := fun p _ _ _ h => b3 p h
      have cv2 : CV m G2 L T P (S1 P a) (P 4 + 1) := by
        obtain ⟨a1, a2, a3, a4, a5, a6, a7, a8, a9, a10, a11, a12, a13⟩ := g2
        have e4 := b3 4 (by decide)
        refine ⟨a1, a2, a3, a4, a5, by rw [e4]; exact a6, by rw [e4]; exact a7, by rw [e4]; exact a8, by rw [e4]; exact a9, by rw [e4]; exact a10, fun i hi => ?_, fun d hd => by rw [b3 8 (by decide)]; exact a12 d hd, a13⟩
        obtain ⟨t, q1, q2, q3, q4, q5, q6⟩ := a11 i hi
        exact ⟨t, q1, q2, q3, q4, by rw [b3 t (by omega)]; exact q5, by rw [b3 t (by omega)]; exact q6⟩
      have dt2 : ∀ e, e < P 4 + 1 → dayT G2 P (S1 P a) e := fun e he => by
        obtain ⟨t1, t2⟩ := g3 e (by omega)
        exact ⟨by rw [b3 18 (by decide)]; exact t1, fun x hx => by rw [b3 16 (by decide), b3 17 (by decide)]; exact t2 x hx⟩
      have e11 := b3 15 (by decide)
      obtain ⟨G3, r1, r2, r3, r4⟩ := C_two_in (N := N) (m := m) (L := L) (T := T) (c := c) hN pv (show a < 2 ^ P 3 by omega) (show k ≤ 4096 by omega) N 0 G2 cv2 dt2 (by rw [e11]; exact k4) (by rw [e11]; exact k5) (by rw [e11]; exact k6) fsk (by rw [Nat.add_zero]; exact hno) (Nat.zero_le _) (by omega)
      have s1 : scr F G2 P := ⟨fun p p1 p2 p3 p4 p5 p6 => by rw [b3 p p6, g4 p p1 p3 p4 p5], fun j hj => by rw [b3 8 (by decide), g5 j (by omega)]⟩
      rcases r4 with ⟨w1, y, y1, y2, y3, y4, y5, y6⟩ | ⟨w1, w2, w3, w4, w5⟩
      · refine ⟨G3, ?_, s1.trans r1, by rw [r2, e11, g11], Or.inl ⟨a, y, by omega, y1, y2, y3, y4, y5, y6⟩⟩
        have w1' := w1 (f_X10_findTwoDays_3 N n)
        rw [show nI 0 = 0 from rfl] at w1'
        simp only [(gN_8 (show P 4 < 26 by omega)).2, f6, u6, g1, b1, w1', gI_0, gI_2, gI_4, gI_9, gI_15, gI_21, gI_49, gP_0, gP_2, gP_4, gP_9, gP_15, gP_21, gP_49, gR_0, gR_2, gR_4, gR_9, gR_15, gR_21, gR_49, gL_53, gL_54, oPz_0, oPz_1, Option.bind_some, c10, c01, cm1, c00, if_true, if_false, ne_eq, not_true_eq_false, not_false_eq_true]
      · have w11 : G3 15 = G1 15 := by rw [w3, e11]
        obtain ⟨H, q1, q2, q3, q4⟩ := ih (a + 1) G3 ⟨CV_c (w4.le (by omega)) (fun e he => S1_lt he), fun e he => dayT_c (w5 e (by omega)) (fun u hu => S1_lt (by omega)), by rw [w11]; exact k4, by rw [w11]; exact k5, by rw [w11]; exact k6, hc, b4.same r3⟩ w2 (by omega) (by omega)
        refine ⟨H, ?_, (s1.trans r1).trans q2, by rw [q3, w11, g11], ?_⟩
        · have w1' := w1 (f_X10_findTwoDays_3 N n)
          rw [show nI 0 = 0 from rfl] at w1'
          simp only [(gN_8 (show P 4 < 26 by omega)).2, f6, u6, g1, b1, w1', gI_0, gI_2, gI_4, gI_9, gI_15, gI_21, gI_49, gP_0, gP_2, gP_4, gP_9, gP_15, gP_21, gP_49, gR_0, gR_2, gR_4, gR_9, gR_15, gR_21, gR_49, gL_53, gL_54, oPz_0, oPz_1, Option.bind_some, c10, c01, cm1, c00, if_true, if_false, ne_eq, not_true_eq_false, not_false_eq_true]
          exact q1
        · rcases q4 with q | ⟨q, q'⟩
          · exact Or.inl q
          · exact Or.inr ⟨q, by rw [q', w11, g11]⟩
/-- scratch of the class in soon -/
theorem C_learn {F : Nat → Nat → Int32} (hN : 5000 ≤ N) (pv : PV P) (pc : PC m F L T 4 P) (s : SoonR F P) : ∃ G, f_X10_learnSoon N (Hp m F L T) (some 15) (some 4) = some ((), Hp m G L T) ∧ G 15 1 = 1 ∧ SoonIs P (G 15 0) (G 15 2) (G 15 3) ∧ (∀ p, p ≠ 8 → p ≠ 15 → p ≠ 16 → p ≠ 17 → p ≠ 18 → p ≠ 19 → p ≠ 20 → G p = F p) ∧ ∀ j, j < P 4 → G 8 j = F 8 j := by
  have v3 : P 3 ≤ 4 := pv.2.2.2.1
  have v4 : P 4 ≤ 24 := pv.2.2.2.2.1
  have hp := pw16 v3
  have hpos := Nat.one_le_two_pow (n := P 3)
  rcases s with s0 | ⟨s1, s2⟩
  case inr =>
    refine ⟨F, ?_, s1, s2, fun _ _ _ _ _ _ _ _ => rfl, fun _ _ => rfl⟩
    simp only [f_X10_learnSoon, f_X10_learnSoon_0, s1, gI_0, gI_2, gI_4, gI_9, gI_15, gI_21, gI_49, gP_0, gP_2, gP_4, gP_9, gP_15, gP_21, gP_49, gR_0, gR_2, gR_4, gR_9, gR_15, gR_21, gR_49, gL_53, gL_54, oPz_0, oPz_1, Option.bind_some, c10, c01, cm1, c00, if_true, if_false, ne_eq, not_true_eq_false, not_false_eq_true]
  generalize hF1 : up2 (up2 F 15 1 1) 15 0 (-1000000) = F1
  have fp : ∀ p, p ≠ 15 → F1 p = F p := fun p hp => by rw [← hF1, up2_ne hp, up2_ne hp]
  have f10 : F1 15 0 = -1000000 := by rw [← hF1]; simp (disch := omega) only [up2_ne, up2_o, up2_s]
  have f11 : F1 15 1 = 1 := by rw [← hF1]; simp (disch := omega) only [up2_ne, up2_o, up2_s]
  have pc1 : PC m F1 L T 4 P := pc.same (fp 4 (by decide)) (fun t ht => fp t (by omega)) (fun j _ => by rw [fp _ (by decide)]) (fp _ (by decide))
  have cv1 := CV_of pv pc1
  obtain ⟨F2, a1, a2, a3, a4⟩ := C_take (N := N) hN cv1 (Nat.le_refl _) v4 pc1.2.2.2.2.2.1
  have cv2 : CV m F2 L T P (setN P) (P 4) := by
    obtain ⟨b1, b2, b3, b4, b5, b6, b7, b8, b9, b10, b11, b12, b13⟩ := cv1
    have e4 := a3 4 (by decide) (by decide) (by decide) (by decide)
    refine ⟨b1, b2, b3, b4, b5, by rw [e4]; exact b6, by rw [e4]; exact b7, by rw [e4]; exact b8, by rw [e4]; exact b9, by rw [e4]; exact b10, fun i hi => ?_, fun d hd => by rw [a3 8 (by decide) (by decide) (by decide) (by decide)]; exact b12 d hd, b13⟩
    obtain ⟨t, q1, q2, q3, q4, q5, q6⟩ := b11 i hi
    exact ⟨t, q1, q2, q3, q4, by rw [a3 t (by omega) (by omega) (by omega) (by omega)]; exact q5, by rw [a3 t (by omega) (by omega) (by omega) (by omega)]; exact q6⟩
  obtain ⟨F3, c, b1, b2, b3, b4, b5⟩ := C_gath (N := N) hN pv cv2 a2
  have e11 := b4 15 (by decide) (by decide)
  have f30 : F3 15 0 = -1000000 := by rw [e11, a4 0 (by omega), f10]
  have f31 : F3 15 1 = 1 := by rw [e11, a4 1 (by omega), f11]
  have fp3 : ∀ p, p ≠ 15 → p ≠ 16 → p ≠ 17 → p ≠ 18 → p ≠ 19 → p ≠ 20 → F3 p = F p := fun p p1 p2 p3 p4 p5 p6 => by rw [b4 p p5 p6, a3 p p1 p2 p3 p4, fp p p1]
  by_cases hc1 : c = 1
  · refine ⟨up2 F3 15 0 0, ?_, by rw [up2_o (by decide)]; exact f31, Or.inl ⟨b3.mp hc1, up2_s _ _ _ _⟩, fun p p0 p1 p2 p3 p4 p5 p6 => by rw [up2_ne p1]; exact fp3 p p1 p2 p3 p4 p5 p6, fun j _ => by rw [up2_ne (by decide), fp3 8 (by decide) (by decide) (by decide) (by decide) (by decide) (by decide)]⟩
    have : nI c = 1 := by rw [hc1]; rfl
    simp only [f_X10_learnSoon, f_X10_learnSoon_0, s0, hF1, a1, b1, this, gI_0, gI_2, gI_4, gI_9, gI_15, gI_21, gI_49, gP_0, gP_2, gP_4, gP_9, gP_15, gP_21, gP_49, gR_0, gR_2, gR_4, gR_9, gR_15, gR_21, gR_49, gL_53, gL_54, oPz_0, oPz_1, Option.bind_some, c10, c01, cm1, c00, if_true, if_false, ne_eq, not_true_eq_false, not_false_eq_true]
  have hn0 : no0 P := fun h => hc1 (b3.mpr h)
  have cv3 : CV m F3 L T P (setN P) (P 4) := by
    obtain ⟨d1, d2, d3, d4, d5, d6, d7, d8, d9, d10, d11, d12, d13⟩ := cv2
    have e4 := b4 4 (by decide) (by decide)
    refine ⟨d1, d2, d3, d4, d5, by rw [e4]; exact d6, by rw [e4]; exact d7, by rw [e4]; exact d8, by rw [e4]; exact d9, by rw [e4]; exact d10, fun i hi => ?_, fun d hd => by rw [b4 8 (by decide) (by decide)]; exact d12 d hd, d13⟩
    obtain ⟨t, q1, q2, q3, q4, q5, q6⟩ := d11 i hi
    exact ⟨t, q1, q2, q3, q4, by rw [b4 t (by omega) (by omega)]; exact q5, by rw [b4 t (by omega) (by omega)]; exact q6⟩
  have sc3 : SC m F3 L T P c := ⟨cv3, fun e he => by
      obtain ⟨t1, t2⟩ := a2.2.2.2.2 e he
      exact ⟨by rw [b4 18 (by decide) (by decide)]; exact t1, fun x hx => by rw [b4 16 (by decide) (by decide), b4 17 (by decide) (by decide)]; exact t2 x hx⟩, by rw [e11]; exact a2.1, by rw [e11]; exact a2.2.1, by rw [e11]; exact a2.2.2.1, b2, b5⟩
  have ew := C_world (N := N) (m := m) (F := F3) (L := L) (T := T) (S := setN P) hN (cv3.le (Nat.zero_le _)) (fun i hi => by rw [fp3 6 (by decide) (by decide) (by decide) (by decide) (by decide) (by decide)]; exact pc.2.2.2.2.2.2.2.2.2 i hi)
  obtain ⟨F4, r, r1, r2, r3, r4, r5⟩ := C_one_l (N := N) (m := m) (L := L) (T := T) hN pv N 0 F3 sc3 (fun x hx => by omega) (Nat.zero_le _) (by omega)
  have r1' : f_X10_findOneDay_3 N N (Hp m F3 L T) (some 15) (some 4) (nI c) (nI (truW P)) 0 = some (bB r, Hp m F4 L T) := r1
  have nc1 : ¬ nI c = 1 := fun q => hc1 ((nI_eq (b := 1) (by omega) (by omega)).mp q)
  cases r with
  | true =>
    obtain ⟨x, x1, x2, x3, x4, x5⟩ := r4 rfl
    refine ⟨F4, ?_, by rw [r3, f31], Or.inr (Or.inl ⟨hn0, x, x1, x2, x3, x4, x5⟩), fun p p0 p1 p2 p3 p4 p5 p6 => by rw [r2.1 p p0 p1 p2 p3 p4 p6, fp3 p p1 p2 p3 p4 p5 p6], fun j hj => by rw [r2.2 j hj, fp3 8 (by decide) (by decide) (by decide) (by decide) (by decide) (by decide)]⟩
    simp only [f_X10_learnSoon, f_X10_learnSoon_0, f_X10_learnSoon_63, s0, hF1, a1, b1, nc1, ew, f_X10_findOneDay, f_X10_findOneDay_0, r1', bB_t, gI_0, gI_2, gI_4, gI_9, gI_15, gI_21, gI_49, gP_0, gP_2, gP_4, gP_9, gP_15, gP_21, gP_49, gR_0, gR_2, gR_4, gR_9, gR_15, gR_21, gR_49, gL_53, gL_54, oPz_0, oPz_1, Option.bind_some, c10, c01, cm1, c00, if_true, if_false, ne_eq, not_true_eq_false, not_false_eq_true]
  | false =>
    obtain ⟨y1, y2, y3⟩ := r5 rfl
    obtain ⟨F5, z1, z2, z3, z4⟩ := C_two_l (N := N) (m := m) (L := L) (T := T) hN pv N 0 F4 y3 (fun x y _ _ h => by omega) (Nat.zero_le _) (by omega)
    have z1' : f_X10_findTwoDays_3 N N (Hp m F4 L T) (some 15) (some 4) (nI c) (nI (truW P)) 0 = some ((), Hp m F5 L T) := z1
    have st := r2.trans z2
    refine ⟨F5, ?_, by rw [z3, r3, f31], ?_, fun p p0 p1 p2 p3 p4 p5 p6 => by rw [st.1 p p0 p1 p2 p3 p4 p6, fp3 p p1 p2 p3 p4 p5 p6], fun j hj => by rw [st.2 j hj, fp3 8 (by decide) (by decide) (by decide) (by decide) (by decide) (by decide)]⟩
    · simp only [f_X10_learnSoon, f_X10_learnSoon_0, f_X10_learnSoon_63, s0, hF1, a1, b1, nc1, ew, f_X10_findOneDay, f_X10_findOneDay_0, r1', bB_f, f_X10_findTwoDays, f_X10_findTwoDays_0, z1', gI_0, gI_2, gI_4, gI_9, gI_15, gI_21, gI_49, gP_0, gP_2, gP_4, gP_9, gP_15, gP_21, gP_49, gR_0, gR_2, gR_4, gR_9, gR_15, gR_21, gR_49, gL_53, gL_54, oPz_0, oPz_1, Option.bind_some, c10, c01, cm1, c00, if_true, if_false, ne_eq, not_true_eq_false, not_false_eq_true]
    · rcases z4 with ⟨x, y, w1, w2, w3, w4, w5, w6, w7⟩ | ⟨w1, w2⟩
      · exact Or.inr (Or.inr (Or.inl ⟨hn0, y1, x, y, w1, w2, w3, w4, w5, w6, w7⟩))
      · exact Or.inr (Or.inr (Or.inr ⟨hn0, y1, w1, by rw [w2, y2, f30]⟩))
end SP
