/-! PORT, the class: days, the end, the whole reading -/
section RE
variable {N n : Nat} {B : Nat → Nat} {m : Nat} {F : Nat → Nat → Int32} {L : Nat → Nat → Option Nat} {T : Nat → Nat} {P : Nat → Nat} {p : Nat}
theorem q_pw (h : P 3 ≤ 4) : 1 ≤ 2 ^ P 3 ∧ 2 ^ P 3 ≤ 16 := by
  have h1 : 2 ^ P 3 ≤ 2 ^ 4 := Nat.pow_le_pow_right (by decide) h
  have h2 : 0 < 2 ^ P 3 := Nat.two_pow_pos _
  omega
theorem q_dy_4 {r : (Nat → Nat) × Nat} (h : q_dy B n P p = .inr r) : r.1 4 = P 4 + 1 := by
  unfold q_dy at h
  split at h
  · cases h
  · split at h
    · cases h
      dsimp only
      rw [q_aD4]
    · cases h
end RE
theorem X6_dys {N n : Nat} {B : Nat → Nat} (hN : 5000 ≤ N) : ∀ (k M : Nat) (P : Nat → Nat) (p m : Nat) (F : Nat → Nat → Int32) (L : Nat → Nat → Option Nat) (T : Nat → Nat), q_CB n B F → q_CT n B F p → p ≤ n → q_D F P → q_W P → P 4 + k = 13 → k < M → q_CO n B m F L T (f_X6_readDays_2 N M (Hp m F L T) (some 2) (some 9) (nI (P 4))) (q_dys B n k P p) := by
  intro k
  induction k with
  | zero => intro M P p m F L T cb ct hp d pw hk; have := pw.2.2.2.2.2.1; omega
  | succ k ih =>
    intro M P p m F L T cb ct hp d pw hk hM
    have w3 := pw.2.2.2.2.1
    have w4 := pw.2.2.2.2.2.1
    have w5 := q_pw w3
    obtain ⟨M, rfl⟩ : ∃ j, M = j + 1 := ⟨M - 1, by omega⟩
    have w : f_X6_isWord N (Hp m F L T) (some 2) (some 1000007) = _ := X6_isW (i := 7) hN (by decide) cb ct hp
    have e4 : ¬ (12 : Int32) < nI (P 4) := nI_nlt (a := 12) (by omega) (by omega)
    rw [f_X6_readDays_2, q_dys]
    by_cases h1 : q_isW B n p 7 = true
    · rw [if_pos h1]
      rw [if_pos h1] at w
      by_cases h3 : P 4 = 12
      · rw [if_pos h3]
        have e3 : nI (P 4) = 12 := by rw [h3]; rfl
        have e4' : ¬ (12 : Int32) < 12 := by decide
        obtain ⟨G, g1, g2, g3, g4⟩ := X6_fail (N := N) (m := m) (L := L) (T := T) (x := 3) ct.2.1
        refine ⟨fun f hf => ?_, fun r hr => by cases hr⟩
        cases hf
        refine ⟨G, ?_, g2.fr, g3, g4⟩
        simp only [e3, e4', w, g1, true_or, or_true, gI_0, gI_2, gI_4, gI_9, gI_15, gI_21, gI_49, gP_0, gP_2, gP_4, gP_9, gP_15, gP_21, gP_49, gR_0, gR_2, gR_4, gR_9, gR_15, gR_21, gR_49, gL_53, gL_54, oPz_0, oPz_1, Option.bind_some, c10, c01, cm1, c00, if_true, if_false, ne_eq, not_true_eq_false, not_false_eq_true]
      · rw [if_neg h3]
        have e3 : ¬ nI (P 4) = 12 := fun q => h3 ((nI_eq (b := 12) (by omega) (by omega)).mp q)
        obtain ⟨F1, a1, a2, a3, -⟩ := X6_adv (N := N) (m := m) (L := L) (T := T) (F := F) (p := q_E B n p) hN cb ct.1 (q_E_b hp).2
        have hp1 := (q_E_b (B := B) hp).2
        generalize q_E B n p = p1 at *
        have cb1 := cb.mv a3
        have d1 := d.mv2 a3
        have al : f_X2_allThings N (Hp m F1 L T) (some 9) = some (nI (2 ^ P 3 - 1), Hp m F1 L T) := by
          simp only [f_X2_allThings, f_X2_allThings_0, d1.2.2.2.1, all_e w3, gI_0, gI_2, gI_4, gI_9, gI_15, gI_21, gI_49, gP_0, gP_2, gP_4, gP_9, gP_15, gP_21, gP_49, gR_0, gR_2, gR_4, gR_9, gR_15, gR_21, gR_49, gL_53, gL_54, oPz_0, oPz_1, Option.bind_some, c10, c01, cm1, c00, if_true, if_false, ne_eq, not_true_eq_false, not_false_eq_true]
        unfold q_dy
        cases hq : q_nm B n 0 (2 ^ P 3 - 1) p1 with
        | inl f =>
          obtain ⟨G, g1, g2, g3, g4⟩ := X6_tN_n (N := N) (m := m) (L := L) (T := T) hN cb1 a2 hp1 (by decide) (by omega) hq
          refine ⟨fun f' hf => ?_, fun r hr => by cases hr⟩
          cases hf
          refine ⟨G, ?_, (a3.trans g2).fr, g3, g4⟩
          rw [show nI 0 = 0 from rfl] at g1
          simp only [e3, e4, w, a1, al, g1, true_or, or_true, gI_0, gI_2, gI_4, gI_9, gI_15, gI_21, gI_49, gP_0, gP_2, gP_4, gP_9, gP_15, gP_21, gP_49, gR_0, gR_2, gR_4, gR_9, gR_15, gR_21, gR_49, gL_53, gL_54, oPz_0, oPz_1, Option.bind_some, c10, c01, cm1, c00, if_true, if_false, ne_eq, not_true_eq_false, not_false_eq_true]
        | inr s =>
          obtain ⟨F2, b1, b2, b3, b4⟩ := X6_tN_y (N := N) (m := m) (L := L) (T := T) hN cb1 a2 hp1 (by decide) (by omega) hq
          obtain ⟨-, -, -, vs⟩ := q_nm_r hq
          have hp2 := (q_E_b (B := B) hp1).2
          generalize q_E B n p1 = p2 at *
          rw [show nI 0 = 0 from rfl] at b1
          obtain ⟨F3, t1, t2, t3, t4⟩ := X2_addD (N := N) (m := m) (L := L) (T := T) (s := s) (d1.mv2 b2) w3 (by omega)
          have fr3 : q_Fr F F3 := ((a3.trans b2).fr).trans t3
          have cb3 := fr3.cb cb
          have ct3 : q_CT n B F3 p2 := b3.mv (fun k _ _ => by rw [t4])
          dsimp only
          by_cases h4 : q_K B n p2 = 3
          · rw [if_pos h4]
            obtain ⟨G, g1, g2, g3⟩ := X6_tS_y (N := N) (m := m) (L := L) (T := T) hN cb3 ct3 hp2 h4
            have fr := fr3.trans g2.fr
            have x4 : q_addD P s 4 = P 4 + 1 := q_aD4
            obtain ⟨s1, s2⟩ := ih M (q_addD P s) (q_E B n p2) m G L T (fr.cb cb) g3 (q_E_b hp2).2 (t2.mv2 g2) (pw.addD (by omega) (by omega)) (by omega) (by omega)
            rw [x4] at s1 s2
            dsimp only
            refine ⟨fun f' hf => ?_, fun r' hr => ?_⟩
            · obtain ⟨G2, y1, y2, y4⟩ := s1 f' hf
              refine ⟨G2, ?_, fr.trans y2, y4⟩
              simp only [e3, e4, w, a1, al, b1, b4, t1, g1, nI_1, true_or, or_true, gI_0, gI_2, gI_4, gI_9, gI_15, gI_21, gI_49, gP_0, gP_2, gP_4, gP_9, gP_15, gP_21, gP_49, gR_0, gR_2, gR_4, gR_9, gR_15, gR_21, gR_49, gL_53, gL_54, oPz_0, oPz_1, Option.bind_some, c10, c01, cm1, c00, if_true, if_false, ne_eq, not_true_eq_false, not_false_eq_true]
              exact y1
            · obtain ⟨G2, y1, y2, y4⟩ := s2 r' hr
              refine ⟨G2, ?_, fr.trans y2, y4⟩
              simp only [e3, e4, w, a1, al, b1, b4, t1, g1, nI_1, true_or, or_true, gI_0, gI_2, gI_4, gI_9, gI_15, gI_21, gI_49, gP_0, gP_2, gP_4, gP_9, gP_15, gP_21, gP_49, gR_0, gR_2, gR_4, gR_9, gR_15, gR_21, gR_49, gL_53, gL_54, oPz_0, oPz_1, Option.bind_some, c10, c01, cm1, c00, if_true, if_false, ne_eq, not_true_eq_false, not_false_eq_true]
              exact y1
          · rw [if_neg h4]
            obtain ⟨G, g1, g2, g3, g4⟩ := X6_tS_n (N := N) (m := m) (L := L) (T := T) ct3 h4
            dsimp only
            refine ⟨fun f hf => ?_, fun r hr => by cases hr⟩
            cases hf
            refine ⟨G, ?_, fr3.trans g2.fr, g3, g4⟩
            simp only [e3, e4, w, a1, al, b1, b4, t1, g1, true_or, or_true, gI_0, gI_2, gI_4, gI_9, gI_15, gI_21, gI_49, gP_0, gP_2, gP_4, gP_9, gP_15, gP_21, gP_49, gR_0, gR_2, gR_4, gR_9, gR_15, gR_21, gR_49, gL_53, gL_54, oPz_0, oPz_1, Option.bind_some, c10, c01, cm1, c00, if_true, if_false, ne_eq, not_true_eq_false, not_false_eq_true]
    · rw [if_neg h1]
      rw [if_neg h1] at w
      refine ⟨fun f hf => (by cases hf), fun r hr => ?_⟩
      cases hr
      refine ⟨F, ?_, q_Fr.refl, ct, d, pw, hp⟩
      simp only [e4, w, f_X6_readDays_70, true_or, or_true, gI_0, gI_2, gI_4, gI_9, gI_15, gI_21, gI_49, gP_0, gP_2, gP_4, gP_9, gP_15, gP_21, gP_49, gR_0, gR_2, gR_4, gR_9, gR_15, gR_21, gR_49, gL_53, gL_54, oPz_0, oPz_1, Option.bind_some, c10, c01, cm1, c00, if_true, if_false, ne_eq, not_true_eq_false, not_false_eq_true]
theorem X6_end {N n : Nat} {B : Nat → Nat} {m : Nat} {F : Nat → Nat → Int32} {L : Nat → Nat → Option Nat} {T : Nat → Nat} {P : Nat → Nat} {p : Nat} (ct : q_CT n B F p) (hp : p ≤ n) (d : q_D F P) (pw : q_W P) : q_CO n B m F L T (f_X6_readEnd N (Hp m F L T) (some 2)) (q_end B n P p) := by
  have k4 : q_K B n p ≤ 4 := q_K_le
  unfold q_end
  by_cases h : q_K B n p = 0
  · rw [if_pos h]
    have e6 : F 2 6 = 0 := by rw [ct.2.2, h]; rfl
    refine ⟨fun f hf => (by cases hf), fun r hr => ?_⟩
    cases hr
    refine ⟨F, ?_, q_Fr.refl, ct, d, pw, hp⟩
    simp only [f_X6_readEnd, f_X6_readEnd_0, f_X6_readEnd_15, f_X6_readEnd_20, e6, or_true, gI_0, gI_2, gI_4, gI_9, gI_15, gI_21, gI_49, gP_0, gP_2, gP_4, gP_9, gP_15, gP_21, gP_49, gR_0, gR_2, gR_4, gR_9, gR_15, gR_21, gR_49, gL_53, gL_54, oPz_0, oPz_1, Option.bind_some, c10, c01, cm1, c00, if_true, if_false, ne_eq, not_true_eq_false, not_false_eq_true]
  · rw [if_neg h]
    have e6 : ¬ F 2 6 = 0 := by rw [ct.2.2]; exact nI_ne0 (by omega) (by omega)
    obtain ⟨G, g1, g2, g3, g4⟩ := X6_fail (N := N) (m := m) (L := L) (T := T) (x := 1) ct.2.1
    refine ⟨fun f hf => ?_, fun r hr => by cases hr⟩
    cases hf
    refine ⟨G, ?_, g2.fr, g3, g4⟩
    simp only [f_X6_readEnd, f_X6_readEnd_0, f_X6_readEnd_20, e6, g1, true_or, gI_0, gI_2, gI_4, gI_9, gI_15, gI_21, gI_49, gP_0, gP_2, gP_4, gP_9, gP_15, gP_21, gP_49, gR_0, gR_2, gR_4, gR_9, gR_15, gR_21, gR_49, gL_53, gL_54, oPz_0, oPz_1, Option.bind_some, c10, c01, cm1, c00, if_true, if_false, ne_eq, not_true_eq_false, not_false_eq_true]
/-- what the whole reading gives -/
def q_CR (m : Nat) (F : Nat → Nat → Int32) (L : Nat → Nat → Option Nat) (T : Nat → Nat) (c : Option (Int32 × hP)) (o : (Nat × Nat) ⊕ ((Nat → Nat) × Nat)) : Prop :=
  (∀ f, o = .inl f → ∃ G, c = some (0, Hp m G L T) ∧ q_Fr F (up2 G 2 1 (F 2 1)) ∧ G 2 1 = 0 ∧ G 2 2 = nI f.1 ∧ G 2 3 = nI f.2) ∧
  (∀ r, o = .inr r → ∃ G, c = some (1, Hp m G L T) ∧ q_Fr F (up2 G 2 1 (F 2 1)) ∧ G 2 1 = 0 ∧ G 9 0 = 1 ∧ q_D G r.1 ∧ q_W r.1)
section RI
variable {N n : Nat} {B : Nat → Nat} {m : Nat} {F : Nat → Nat → Int32} {L : Nat → Nat → Option Nat} {T : Nat → Nat}
theorem q_fin0 {G : Nat → Nat → Int32} {v : Int32} (fr : q_Fr F G) : q_Fr F (up2 (up2 (up2 G 9 0 v) 2 1 0) 2 1 (F 2 1)) := by
  refine ⟨fun q a b c => ?_, ?_⟩
  · rw [up2_ne a, up2_ne a, up2_ne b]; exact fr.1 q a b c
  · rw [up2_s]
theorem q_law_3 {p : Nat} {r : (Nat → Nat) × Nat} (h : q_law B n p = .inr r) : r.1 3 = 0 ∧ r.1 4 = 0 := by
  unfold q_law at h
  split at h
  · split at h
    · cases h
    · split at h
      · cases h
      · split at h
        · cases h
        · split at h
          · cases h
            exact ⟨rfl, rfl⟩
          · cases h
  · cases h
theorem q_ths_4 : ∀ (k : Nat) (P : Nat → Nat) (p : Nat) (r : (Nat → Nat) × Nat), P 4 = 0 → P 3 ≤ 4 → q_ths B n k P p = .inr r → r.1 4 = 0 := by
  intro k
  induction k with
  | zero => intro P p r h4 h3 h; cases h; exact h4
  | succ k ih =>
    intro P p r h4 h3 h
    rw [q_ths] at h
    split at h
    · split at h
      · cases h
      · split at h
        · cases h
        · rename_i r' hr
          obtain ⟨a, b⟩ := q_th_3 h4 (by omega) hr
          exact ih r'.1 r'.2 r b (by omega) h
    · cases h; exact h4
theorem X6_rI (hN : 5000 ≤ N) (cb : q_CB n B F) : q_CR m F L T (f_X6_readInto N (Hp m F L T) (some 2) (some 9)) (q_port B n) := by
  generalize hF0 : up2 (up2 (up2 (up2 F 9 4 0) 9 5 0) 9 6 0) 2 4 0 = F0
  have z0 : ∀ k, 4 ≤ k → k < 7 → F0 9 k = 0 := by
    intro k h4 hk
    rw [← hF0]
    rcases (show k = 4 ∨ k = 5 ∨ k = 6 by omega) with rfl | rfl | rfl <;> simp (disch := omega) only [up2_ne, up2_o, up2_s]
  have f0 : q_Fr F F0 := by
    refine ⟨fun q a b c => ?_, ?_⟩
    · rw [← hF0, up2_ne a, up2_ne b, up2_ne b, up2_ne b]
    · rw [← hF0]; simp (disch := omega) only [up2_ne, up2_o, up2_s]
  have e04 : F0 2 4 = nI 0 := by rw [← hF0, up2_s]; rfl
  have cb0 := f0.cb cb
  obtain ⟨F1, a1, a2, a3, -⟩ := X6_adv (N := N) (m := m) (L := L) (T := T) (F := F0) (p := 0) hN cb0 e04 (Nat.zero_le _)
  have f1 : q_Fr F F1 := f0.trans a3.fr
  have cb1 := f1.cb cb
  obtain ⟨l1, l2⟩ := X6_law (N := N) (m := m) (L := L) (T := T) hN cb1 a2 (Nat.zero_le _) (fun k h4 hk => by rw [a3.1 9 (by decide)]; exact z0 k h4 hk)
  unfold q_port
  cases hl : q_law B n 0 with
  | inl f =>
    obtain ⟨G, g1, g2, g4, g5⟩ := l1 f hl
    refine ⟨fun f' hf => ?_, fun r hr => by cases hr⟩
    cases hf
    refine ⟨up2 (up2 G 9 0 0) 2 1 0, ?_, q_fin0 (f1.trans g2), up2_s _ _ _ _, by simp (disch := omega) only [up2_ne, up2_o, up2_s]; exact g4, by simp (disch := omega) only [up2_ne, up2_o, up2_s]; exact g5⟩
    simp only [f_X6_readInto, f_X6_readInto_0, f_X6_readInto_48, f_X6_readInto_49, f_X2_clear, f_X2_clear_0, hF0, a1, g1, true_or, or_true, gI_0, gI_2, gI_4, gI_9, gI_15, gI_21, gI_49, gP_0, gP_2, gP_4, gP_9, gP_15, gP_21, gP_49, gR_0, gR_2, gR_4, gR_9, gR_15, gR_21, gR_49, gL_53, gL_54, oPz_0, oPz_1, Option.bind_some, c10, c01, cm1, c00, if_true, if_false, ne_eq, not_true_eq_false, not_false_eq_true]
  | inr r1 =>
    obtain ⟨G1, g1, g2, g4, g5, g6, g7⟩ := l2 r1 hl
    obtain ⟨x3, x4⟩ := q_law_3 hl
    have fr1 := f1.trans g2
    obtain ⟨t1, t2⟩ := X6_ths (N := N) hN 5 N r1.1 r1.2 m G1 L T (fr1.cb cb) g4 g7 g5 g6 x4 (by omega) (by omega)
    rw [x3, show nI 0 = 0 from rfl] at t1 t2
    dsimp only
    cases ht : q_ths B n 5 r1.1 r1.2 with
    | inl f =>
      obtain ⟨G, y1, y2, y4, y5⟩ := t1 f ht
      refine ⟨fun f' hf => ?_, fun r hr => by cases hr⟩
      cases hf
      refine ⟨up2 (up2 G 9 0 0) 2 1 0, ?_, q_fin0 (fr1.trans y2), up2_s _ _ _ _, by simp (disch := omega) only [up2_ne, up2_o, up2_s]; exact y4, by simp (disch := omega) only [up2_ne, up2_o, up2_s]; exact y5⟩
      simp only [f_X6_readInto, f_X6_readInto_0, f_X6_readInto_48, f_X6_readInto_49, f_X2_clear, f_X2_clear_0, hF0, a1, g1, f_X6_readThings, f_X6_readThings_0, y1, true_or, or_true, gI_0, gI_2, gI_4, gI_9, gI_15, gI_21, gI_49, gP_0, gP_2, gP_4, gP_9, gP_15, gP_21, gP_49, gR_0, gR_2, gR_4, gR_9, gR_15, gR_21, gR_49, gL_53, gL_54, oPz_0, oPz_1, Option.bind_some, c10, c01, cm1, c00, if_true, if_false, ne_eq, not_true_eq_false, not_false_eq_true]
    | inr r2 =>
      obtain ⟨G2, y1, y2, y4, y5, y6, y7⟩ := t2 r2 ht
      have x5 := q_ths_4 5 r1.1 r1.2 r2 x4 (by omega) ht
      have fr2 := fr1.trans y2
      obtain ⟨u1, u2⟩ := X6_dys (N := N) hN 13 N r2.1 r2.2 m G2 L T (fr2.cb cb) y4 y7 y5 y6 (by omega) (by omega)
      rw [x5, show nI 0 = 0 from rfl] at u1 u2
      dsimp only
      cases hd : q_dys B n 13 r2.1 r2.2 with
      | inl f =>
        obtain ⟨G, w1, w2, w4, w5⟩ := u1 f hd
        refine ⟨fun f' hf => ?_, fun r hr => by cases hr⟩
        cases hf
        refine ⟨up2 (up2 G 9 0 0) 2 1 0, ?_, q_fin0 (fr2.trans w2), up2_s _ _ _ _, by simp (disch := omega) only [up2_ne, up2_o, up2_s]; exact w4, by simp (disch := omega) only [up2_ne, up2_o, up2_s]; exact w5⟩
        simp only [f_X6_readInto, f_X6_readInto_0, f_X6_readInto_48, f_X6_readInto_49, f_X2_clear, f_X2_clear_0, hF0, a1, g1, f_X6_readThings, f_X6_readThings_0, y1, f_X6_readDays, f_X6_readDays_0, w1, true_or, or_true, gI_0, gI_2, gI_4, gI_9, gI_15, gI_21, gI_49, gP_0, gP_2, gP_4, gP_9, gP_15, gP_21, gP_49, gR_0, gR_2, gR_4, gR_9, gR_15, gR_21, gR_49, gL_53, gL_54, oPz_0, oPz_1, Option.bind_some, c10, c01, cm1, c00, if_true, if_false, ne_eq, not_true_eq_false, not_false_eq_true]
      | inr r3 =>
        obtain ⟨G3, w1, w2, w4, w5, w6, w7⟩ := u2 r3 hd
        have fr3 := fr2.trans w2
        obtain ⟨v1, v2⟩ := X6_end (N := N) (m := m) (L := L) (T := T) w4 w7 w5 w6
        dsimp only
        cases he : q_end B n r3.1 r3.2 with
        | inl f =>
          obtain ⟨G, z1, z2, z4, z5⟩ := v1 f he
          refine ⟨fun f' hf => ?_, fun r hr => by cases hr⟩
          cases hf
          refine ⟨up2 (up2 G 9 0 0) 2 1 0, ?_, q_fin0 (fr3.trans z2), up2_s _ _ _ _, by simp (disch := omega) only [up2_ne, up2_o, up2_s]; exact z4, by simp (disch := omega) only [up2_ne, up2_o, up2_s]; exact z5⟩
          simp only [f_X6_readInto, f_X6_readInto_0, f_X6_readInto_48, f_X6_readInto_49, f_X2_clear, f_X2_clear_0, hF0, a1, g1, f_X6_readThings, f_X6_readThings_0, y1, f_X6_readDays, f_X6_readDays_0, w1, z1, true_or, or_true, gI_0, gI_2, gI_4, gI_9, gI_15, gI_21, gI_49, gP_0, gP_2, gP_4, gP_9, gP_15, gP_21, gP_49, gR_0, gR_2, gR_4, gR_9, gR_15, gR_21, gR_49, gL_53, gL_54, oPz_0, oPz_1, Option.bind_some, c10, c01, cm1, c00, if_true, if_false, ne_eq, not_true_eq_false, not_false_eq_true]
        | inr r4 =>
          obtain ⟨G, z1, z2, z4, z5, z6, z7⟩ := v2 r4 he
          refine ⟨fun f' hf => (by cases hf), fun r hr => ?_⟩
          cases hr
          refine ⟨up2 (up2 G 9 0 1) 2 1 0, ?_, q_fin0 (fr3.trans z2), up2_s _ _ _ _, by simp (disch := omega) only [up2_ne, up2_o, up2_s], ?_, z6⟩
          · simp only [f_X6_readInto, f_X6_readInto_0, f_X6_readInto_48, f_X6_readInto_49, f_X2_clear, f_X2_clear_0, hF0, a1, g1, f_X6_readThings, f_X6_readThings_0, y1, f_X6_readDays, f_X6_readDays_0, w1, z1, true_or, or_true, gI_0, gI_2, gI_4, gI_9, gI_15, gI_21, gI_49, gP_0, gP_2, gP_4, gP_9, gP_15, gP_21, gP_49, gR_0, gR_2, gR_4, gR_9, gR_15, gR_21, gR_49, gL_53, gL_54, oPz_0, oPz_1, Option.bind_some, c10, c01, cm1, c00, if_true, if_false, ne_eq, not_true_eq_false, not_false_eq_true]
          · obtain ⟨d1, d2, d3, d4, d5, d6, d7, d8⟩ := z5
            exact ⟨by simp (disch := omega) only [up2_ne, up2_o, up2_s]; exact d1, by simp (disch := omega) only [up2_ne, up2_o, up2_s]; exact d2, by simp (disch := omega) only [up2_ne, up2_o, up2_s]; exact d3, by simp (disch := omega) only [up2_ne, up2_o, up2_s]; exact d4, by simp (disch := omega) only [up2_ne, up2_o, up2_s]; exact d5, by simp (disch := omega) only [up2_ne, up2_o, up2_s]; exact d6, fun i hi => by simp (disch := omega) only [up2_ne, up2_o, up2_s]; exact d7 i hi, fun j hj => by simp (disch := omega) only [up2_ne, up2_o, up2_s]; exact d8 j hj⟩
end RI
