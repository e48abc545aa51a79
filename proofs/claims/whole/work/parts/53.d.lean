/-! PORT, the reference's reading -/
def q_R4 (F G : Nat → Nat → Int32) : Prop := (∀ q, q ≠ 49 → q ≠ 54 → G q = F q) ∧ ∀ k, (k < 9 ∨ k = 10 ∨ 16 < k) → G 49 k = F 49 k
def q_RO (c : Option (Int32 × hP)) (m : Nat) (F : Nat → Nat → Int32) (L : Nat → Nat → Option Nat) (T : Nat → Nat) (f : Nat × Nat) : Prop := ∃ G, c = some (-1000100 - nI f.2, Hp m G L T) ∧ q_R4 F G ∧ G 49 9 = nI f.1
def q_PF (F : Nat → Nat → Int32) (P : Nat → Nat) : Prop := ∀ i, i < 39 → F 54 i = nI (P i)
section RO
variable {N m n : Nat} {B : Nat → Nat} {L : Nat → Nat → Option Nat} {T : Nat → Nat} {F G : Nat → Nat → Int32} {p : Nat} {P : Nat → Nat} {f : Nat × Nat}
theorem q_RO.mono {c : Option (Int32 × hP)} (h : q_RO c m G L T f) (k : q_R3 F G) : q_RO c m F L T f := by
  obtain ⟨H, h1, h2, h3⟩ := h
  exact ⟨H, h1, ⟨fun q a b => (h2.1 q a b).trans (k.1 q a b), fun j hj => (h2.2 j hj).trans (k.2 j (by omega))⟩, h3⟩
theorem M_148_f (h : q_RF n B F f) : q_RO (f_X12_port_148 N (Hp m F L T) (some 49)) m F L T f := by
  have e : ¬ nI f.1 ≤ 0 := nI_nle (by have := h.2.2.2.2; omega) (by have := h.2.2.2.2; omega)
  have e6 : up2 F 49 9 (nI f.1) 49 16 = nI f.2 := by simp (disch := omega) only [up2_ne, up2_o, up2_s]; exact h.2.2.2.1
  refine ⟨up2 F 49 9 (nI f.1), ?_, ⟨fun q a b => up2_ne a, fun k hk => up2_o (by omega)⟩, up2_s _ _ _ _⟩
  simp only [f_X12_port_148, h.2.2.1, e, e6, gI_0, gI_2, gI_4, gI_9, gI_15, gI_21, gI_49, gP_0, gP_2, gP_4, gP_9, gP_15, gP_21, gP_49, gR_0, gR_2, gR_4, gR_9, gR_15, gR_21, gR_49, gL_53, gL_54, oPz_0, oPz_1, Option.bind_some, c10, c01, cm1, c00, if_true, if_false, ne_eq, not_true_eq_false, not_false_eq_true]
theorem M_110_f (hN : 5000 ≤ N) (h : q_RF n B F f) {M : Nat} (hM : 1 ≤ M) : q_RO (f_X12_port_110 N M (Hp m F L T) (some 49)) m F L T f := by
  obtain ⟨M, rfl⟩ : ∃ j, M = j + 1 := ⟨M - 1, by omega⟩
  obtain ⟨p, hp, rt⟩ := h.2.1
  have e1 : ¬ lg_cmp (0 : Int64) 6578553 = 0 := by decide
  have e : f_X12_port_110 N (M + 1) (Hp m F L T) (some 49) = f_X12_port_148 N (Hp m F L T) (some 49) := by
    rw [f_X12_port_110]
    simp only [M_name_f hN h.1 rt hp h.ne, e1, h.ne, gI_0, gI_2, gI_4, gI_9, gI_15, gI_21, gI_49, gP_0, gP_2, gP_4, gP_9, gP_15, gP_21, gP_49, gR_0, gR_2, gR_4, gR_9, gR_15, gR_21, gR_49, gL_53, gL_54, oPz_0, oPz_1, Option.bind_some, c10, c01, cm1, c00, if_true, if_false, ne_eq, not_true_eq_false, not_false_eq_true]
  rw [e]
  exact M_148_f h
theorem M_92_f (hN : 5000 ≤ N) (h : q_RF n B F f) {M : Nat} (hM : 1 ≤ M) : q_RO (f_X12_port_92 N M (Hp m F L T) (some 49)) m F L T f := by
  obtain ⟨M, rfl⟩ : ∃ j, M = j + 1 := ⟨M - 1, by omega⟩
  obtain ⟨p, hp, rt⟩ := h.2.1
  have e1 : ¬ lg_cmp (0 : Int64) 499967946343 = 0 := by decide
  have e : f_X12_port_92 N (M + 1) (Hp m F L T) (some 49) = f_X12_port_110 N N (Hp m F L T) (some 49) := by
    rw [f_X12_port_92]
    simp only [M_name_f hN h.1 rt hp h.ne, e1, gI_0, gI_2, gI_4, gI_9, gI_15, gI_21, gI_49, gP_0, gP_2, gP_4, gP_9, gP_15, gP_21, gP_49, gR_0, gR_2, gR_4, gR_9, gR_15, gR_21, gR_49, gL_53, gL_54, oPz_0, oPz_1, Option.bind_some, c10, c01, cm1, c00, if_true, if_false, ne_eq, not_true_eq_false, not_false_eq_true]
  rw [e]
  exact M_110_f hN h (by omega)
theorem q_RT.mv (rt : q_RT n B F p) (e : G 49 = F 49) : q_RT n B G p := by
  unfold q_RT
  rw [e]
  exact rt
theorem M_law (hN : 5000 ≤ N) (rb : q_RB n B F) (rt : q_RT n B F p) (hp : p ≤ n) (h0 : F 49 15 = 0) (z : ∀ i, i < 39 → F 54 i = 0) :
    (∀ f, q_law B n p = .inl f → q_RO (f_X12_port_47 N (Hp m F L T) (some 49) (some 49) (if q_isW B n p 0 = true then 1 else 0)) m F L T f) ∧
    (∀ r, q_law B n p = .inr r → ∃ G, f_X12_port_47 N (Hp m F L T) (some 49) (some 49) (if q_isW B n p 0 = true then 1 else 0) = f_X12_port_92 N N (Hp m G L T) (some 49) ∧ q_R3 F G ∧ q_RT n B G r.2 ∧ G 49 15 = 0 ∧ q_PF G r.1 ∧ r.2 ≤ n ∧ q_W r.1) := by
  unfold q_law
  have z0 : nI 0 = 0 := rfl
  by_cases hw : q_isW B n p 0 = true
  · rw [if_pos hw, if_pos hw]
    obtain ⟨F1, a1, a2, a3⟩ := M_must_y (N := N) (m := m) (L := L) (T := T) hN rb rt hp h0
    have hp1 := (q_E_b (B := B) hp).2
    generalize q_E B n p = p1 at *
    have rb1 := rb.mv2 a3
    have s1 : F1 49 15 = 0 := by rw [a3.2 15 (by decide)]; exact h0
    cases h1 : q_nm B n 0 3 p1 with
    | inl k =>
      obtain ⟨v, G, g1, g2, g3⟩ := M_num_n (N := N) (m := m) (L := L) (T := T) hN rb1 a2 hp1 s1 (by decide) (by decide) h1
      rw [z0, show nI 3 = 3 from rfl] at g1
      refine ⟨fun f hf => ?_, fun r hr => by cases hr⟩
      cases hf
      have y1 := g2.fr (k := 0) (v := v)
      have y2 := y1.fr (k := 1) (v := 0)
      have y3 := y2.fr (k := 2) (v := 0)
      have e : f_X12_port_47 N (Hp m F L T) (some 49) (some 49) 1 = f_X12_port_92 N N (Hp m (up2 (up2 (up2 G 54 0 v) 54 1 0) 54 2 0) L T) (some 49) := by
        simp only [f_X12_port_47, a1, g1, M_num_f y1, M_num_f y2, M_end_f y3, gI_0, gI_2, gI_4, gI_9, gI_15, gI_21, gI_49, gP_0, gP_2, gP_4, gP_9, gP_15, gP_21, gP_49, gR_0, gR_2, gR_4, gR_9, gR_15, gR_21, gR_49, gL_53, gL_54, oPz_0, oPz_1, Option.bind_some, c10, c01, cm1, c00, if_true, if_false, ne_eq, not_true_eq_false, not_false_eq_true]
      rw [e]
      exact (M_92_f hN y3 (by omega)).mono ((a3.r3.trans g3).trans (q_R3.fr.trans (q_R3.fr.trans q_R3.fr)))
    | inr a =>
      obtain ⟨F2, b1, b2, b3⟩ := M_num_y (N := N) (m := m) (L := L) (T := T) hN rb1 a2 hp1 s1 (by decide) (by decide) h1
      rw [z0, show nI 3 = 3 from rfl] at b1
      obtain ⟨-, -, -, va⟩ := q_nm_r h1
      have hp2 := (q_E_b (B := B) hp1).2
      generalize q_E B n p1 = p2 at *
      generalize hF3 : up2 F2 54 0 (nI a) = F3
      have fr3 : q_R3 F F3 := by rw [← hF3]; exact (a3.trans b3).r3.trans q_R3.fr
      have e3 : F3 49 = F2 49 := by rw [← hF3, up2_ne (by decide)]
      have rt3 : q_RT n B F3 p2 := b2.mv e3
      have rb3 := fr3.rb rb
      have s3 : F3 49 15 = 0 := by rw [e3, b3.2 15 (by decide)]; exact s1
      dsimp only
      cases h2 : q_nm B n 0 1 p2 with
      | inl k =>
        obtain ⟨v, G, g1, g2, g3⟩ := M_num_n (N := N) (m := m) (L := L) (T := T) hN rb3 rt3 hp2 s3 (by decide) (by decide) h2
        rw [z0, show nI 1 = 1 from rfl] at g1
        refine ⟨fun f hf => ?_, fun r hr => by cases hr⟩
        cases hf
        have y1 := g2.fr (k := 1) (v := v)
        have y2 := y1.fr (k := 2) (v := 0)
        have e : f_X12_port_47 N (Hp m F L T) (some 49) (some 49) 1 = f_X12_port_92 N N (Hp m (up2 (up2 G 54 1 v) 54 2 0) L T) (some 49) := by
          simp only [f_X12_port_47, a1, b1, hF3, g1, M_num_f y1, M_end_f y2, gI_0, gI_2, gI_4, gI_9, gI_15, gI_21, gI_49, gP_0, gP_2, gP_4, gP_9, gP_15, gP_21, gP_49, gR_0, gR_2, gR_4, gR_9, gR_15, gR_21, gR_49, gL_53, gL_54, oPz_0, oPz_1, Option.bind_some, c10, c01, cm1, c00, if_true, if_false, ne_eq, not_true_eq_false, not_false_eq_true]
        rw [e]
        exact (M_92_f hN y2 (by omega)).mono ((fr3.trans g3).trans (q_R3.fr.trans q_R3.fr))
      | inr b =>
        obtain ⟨F4, c1, c2, c3⟩ := M_num_y (N := N) (m := m) (L := L) (T := T) hN rb3 rt3 hp2 s3 (by decide) (by decide) h2
        rw [z0, show nI 1 = 1 from rfl] at c1
        obtain ⟨-, -, -, vb⟩ := q_nm_r h2
        have hp3 := (q_E_b (B := B) hp2).2
        generalize q_E B n p2 = p3 at *
        generalize hF5 : up2 F4 54 1 (nI b) = F5
        have fr5 : q_R3 F F5 := by rw [← hF5]; exact (fr3.trans c3.r3).trans q_R3.fr
        have e5 : F5 49 = F4 49 := by rw [← hF5, up2_ne (by decide)]
        have rt5 : q_RT n B F5 p3 := c2.mv e5
        have rb5 := fr5.rb rb
        have s5 : F5 49 15 = 0 := by rw [e5, c3.2 15 (by decide)]; exact s3
        dsimp only
        cases h3 : q_nm B n 2 200 p3 with
        | inl k =>
          obtain ⟨v, G, g1, g2, g3⟩ := M_num_n (N := N) (m := m) (L := L) (T := T) hN rb5 rt5 hp3 s5 (by decide) (by decide) h3
          rw [show nI 2 = 2 from rfl, show nI 200 = 200 from rfl] at g1
          refine ⟨fun f hf => ?_, fun r hr => by cases hr⟩
          cases hf
          have y1 := g2.fr (k := 2) (v := v)
          have e : f_X12_port_47 N (Hp m F L T) (some 49) (some 49) 1 = f_X12_port_92 N N (Hp m (up2 G 54 2 v) L T) (some 49) := by
            simp only [f_X12_port_47, a1, b1, hF3, c1, hF5, g1, M_end_f y1, gI_0, gI_2, gI_4, gI_9, gI_15, gI_21, gI_49, gP_0, gP_2, gP_4, gP_9, gP_15, gP_21, gP_49, gR_0, gR_2, gR_4, gR_9, gR_15, gR_21, gR_49, gL_53, gL_54, oPz_0, oPz_1, Option.bind_some, c10, c01, cm1, c00, if_true, if_false, ne_eq, not_true_eq_false, not_false_eq_true]
          rw [e]
          exact (M_92_f hN y1 (by omega)).mono ((fr5.trans g3).trans q_R3.fr)
        | inr c =>
          obtain ⟨F6, d1, d2, d3⟩ := M_num_y (N := N) (m := m) (L := L) (T := T) hN rb5 rt5 hp3 s5 (by decide) (by decide) h3
          rw [show nI 2 = 2 from rfl, show nI 200 = 200 from rfl] at d1
          obtain ⟨-, -, vc1, vc⟩ := q_nm_r h3
          have hp4 := (q_E_b (B := B) hp3).2
          generalize q_E B n p3 = p4 at *
          generalize hF7 : up2 F6 54 2 (nI c) = F7
          have fr7 : q_R3 F F7 := by rw [← hF7]; exact (fr5.trans d3.r3).trans q_R3.fr
          have e7 : F7 49 = F6 49 := by rw [← hF7, up2_ne (by decide)]
          have rt7 : q_RT n B F7 p4 := d2.mv e7
          have rb7 := fr7.rb rb
          have s7 : F7 49 15 = 0 := by rw [e7, d3.2 15 (by decide)]; exact s5
          dsimp only
          by_cases h4 : q_K B n p4 = 3
          · rw [if_pos h4]
            obtain ⟨G, g1, g2, g3⟩ := M_end_y (N := N) (m := m) (L := L) (T := T) hN rb7 rt7 hp4 s7 h4
            refine ⟨fun f hf => (by cases hf), fun r hr => ?_⟩
            cases hr
            refine ⟨G, ?_, fr7.trans g3.r3, g2, by rw [g3.2 15 (by decide)]; exact s7, fun i hi => ?_, (q_E_b hp4).2, ?_⟩
            · simp only [f_X12_port_47, a1, b1, hF3, c1, hF5, d1, hF7, g1, gI_0, gI_2, gI_4, gI_9, gI_15, gI_21, gI_49, gP_0, gP_2, gP_4, gP_9, gP_15, gP_21, gP_49, gR_0, gR_2, gR_4, gR_9, gR_15, gR_21, gR_49, gL_53, gL_54, oPz_0, oPz_1, Option.bind_some, c10, c01, cm1, c00, if_true, if_false, ne_eq, not_true_eq_false, not_false_eq_true]
            · have k6 : F6 54 = F5 54 := d3.1 54 (by decide)
              have k4 : F4 54 = F3 54 := c3.1 54 (by decide)
              have k2 : F2 54 = F 54 := (b3.1 54 (by decide)).trans (a3.1 54 (by decide))
              rw [g3.1 54 (by decide)]
              dsimp only
              by_cases i2 : i = 2
              · subst i2; rw [← hF7, up2_s]; rfl
              · rw [← hF7, up2_o i2, k6]
                by_cases i1 : i = 1
                · subst i1; rw [← hF5, up2_s]; rfl
                · rw [← hF5, up2_o i1, k4]
                  by_cases i0 : i = 0
                  · subst i0; rw [← hF3, up2_s]; rfl
                  · rw [← hF3, up2_o i0, k2, z i hi, if_neg i0, if_neg i1, if_neg i2]; rfl
            · exact ⟨va, vb, vc1, vc, Nat.zero_le _, Nat.zero_le _, fun i hi => absurd hi (Nat.not_lt_zero _), fun j hj => absurd hj (Nat.not_lt_zero _)⟩
          · rw [if_neg h4]
            obtain ⟨G, g1, g2, g3⟩ := M_end_n (N := N) (m := m) (L := L) (T := T) rb7 rt7 hp4 s7 h4
            refine ⟨fun f hf => ?_, fun r hr => by cases hr⟩
            cases hf
            have e : f_X12_port_47 N (Hp m F L T) (some 49) (some 49) 1 = f_X12_port_92 N N (Hp m G L T) (some 49) := by
              simp only [f_X12_port_47, a1, b1, hF3, c1, hF5, d1, hF7, g1, gI_0, gI_2, gI_4, gI_9, gI_15, gI_21, gI_49, gP_0, gP_2, gP_4, gP_9, gP_15, gP_21, gP_49, gR_0, gR_2, gR_4, gR_9, gR_15, gR_21, gR_49, gL_53, gL_54, oPz_0, oPz_1, Option.bind_some, c10, c01, cm1, c00, if_true, if_false, ne_eq, not_true_eq_false, not_false_eq_true]
            rw [e]
            exact (M_92_f hN g2 (by omega)).mono (fr7.trans g3)
  · rw [if_neg hw, if_neg hw]
    obtain ⟨G, g1, g2, g3⟩ := M_must_n (N := N) (m := m) (L := L) (T := T) rb rt hp h0
    refine ⟨fun f hf => ?_, fun r hr => by cases hr⟩
    cases hf
    have y1 := g2.fr (k := 0) (v := 0)
    have y2 := y1.fr (k := 1) (v := 0)
    have y3 := y2.fr (k := 2) (v := 0)
    have e : f_X12_port_47 N (Hp m F L T) (some 49) (some 49) 0 = f_X12_port_92 N N (Hp m (up2 (up2 (up2 G 54 0 0) 54 1 0) 54 2 0) L T) (some 49) := by
      simp only [f_X12_port_47, g1, M_num_f g2, M_num_f y1, M_num_f y2, M_end_f y3, gI_0, gI_2, gI_4, gI_9, gI_15, gI_21, gI_49, gP_0, gP_2, gP_4, gP_9, gP_15, gP_21, gP_49, gR_0, gR_2, gR_4, gR_9, gR_15, gR_21, gR_49, gL_53, gL_54, oPz_0, oPz_1, Option.bind_some, c10, c01, cm1, c00, if_true, if_false, ne_eq, not_true_eq_false, not_false_eq_true]
    rw [e]
    exact (M_92_f hN y3 (by omega)).mono (g3.trans (q_R3.fr.trans (q_R3.fr.trans q_R3.fr)))
theorem M_36_f {x : Int32} (h : q_RF n B F f) : f_X12_readThing_36 N (Hp m F L T) (some 49) x = some ((), Hp m F L T) := by
  simp only [f_X12_readThing_36, f_X12_readThing_99, M_num_f h, M_end_f h, h.ne, gI_0, gI_2, gI_4, gI_9, gI_15, gI_21, gI_49, gP_0, gP_2, gP_4, gP_9, gP_15, gP_21, gP_49, gR_0, gR_2, gR_4, gR_9, gR_15, gR_21, gR_49, gL_53, gL_54, oPz_0, oPz_1, Option.bind_some, c10, c01, cm1, c00, if_true, if_false, ne_eq, not_true_eq_false, not_false_eq_true]
/-- what a piece of the reference's reading gives -/
def q_RU (n : Nat) (B : Nat → Nat) (c : Option (Unit × hP)) (m : Nat) (F : Nat → Nat → Int32) (L : Nat → Nat → Option Nat) (T : Nat → Nat) (o : (Nat × Nat) ⊕ ((Nat → Nat) × Nat)) : Prop :=
  (∀ f, o = .inl f → ∃ G, c = some ((), Hp m G L T) ∧ q_RF n B G f ∧ q_R3 F G) ∧ (∀ r, o = .inr r → ∃ G, c = some ((), Hp m G L T) ∧ q_R3 F G ∧ q_RT n B G r.2 ∧ G 49 15 = 0 ∧ q_PF G r.1 ∧ r.2 ≤ n ∧ q_W r.1)
theorem M_th4 (hN : 5000 ≤ N) (rb : q_RB n B F) (rt : q_RT n B F p) (hp : p ≤ n) (h0 : F 49 15 = 0) (pf : q_PF F P) (h4 : P 3 = 4) : ∃ G, f_X12_readThing N (Hp m F L T) (some 49) = some ((), Hp m G L T) ∧ q_RF n B G (3, q_S B n p) ∧ q_R3 F G := by
  have e3 : F 54 3 = 4 := by rw [pf 3 (by decide), h4]; rfl
  obtain ⟨G, g1, g2, g3, -⟩ := M_bad (N := N) (m := m) (L := L) (T := T) (k := 3) (by decide) (by decide) rb rt hp h0
  rw [show nI 3 = 3 from rfl] at g1
  obtain ⟨p', hp', rt'⟩ := g2.2.1
  have ek : ∀ A, f_X12_kindBy N A 0 = some (-1000000, A) := fun A => rfl
  refine ⟨G, ?_, g2, g3⟩
  simp only [f_X12_readThing, f_X12_readThing_0, f_X12_begins, f_X12_begins_0, f_X12_begins_15, e3, g1, M_must_f g2, M_name_f hN g2.1 rt' hp' g2.ne, ek, g2.ne, M_36_f g2, gI_0, gI_2, gI_4, gI_9, gI_15, gI_21, gI_49, gP_0, gP_2, gP_4, gP_9, gP_15, gP_21, gP_49, gR_0, gR_2, gR_4, gR_9, gR_15, gR_21, gR_49, gL_53, gL_54, oPz_0, oPz_1, Option.bind_some, c10, c01, cm1, c00, if_true, if_false, ne_eq, not_true_eq_false, not_false_eq_true]
theorem M_th (hN : 5000 ≤ N) (rb : q_RB n B F) (rt : q_RT n B F p) (hp : p ≤ n) (h0 : F 49 15 = 0) (pf : q_PF F P) (pw : q_W P) (h3 : P 3 < 4) (hd : P 4 = 0) : q_RU n B (f_X12_readThing N (Hp m F L T) (some 49)) m F L T (q_th B n P (q_E B n p)) := by
  have e3 : F 54 3 = nI (P 3) := pf 3 (by decide)
  have e34 : ¬ nI (P 3) = 4 := fun q => by have := (nI_eq (b := 4) (by omega) (by omega)).mp q; omega
  obtain ⟨F1, a1, a2, a3⟩ := M_must_y (N := N) (m := m) (L := L) (T := T) hN rb rt hp h0
  have hp1 := (q_E_b (B := B) hp).2
  generalize q_E B n p = p1 at *
  have rb1 := rb.mv2 a3
  have s1 : F1 49 15 = 0 := by rw [a3.2 15 (by decide)]; exact h0
  have nm := M_name_y (N := N) (m := m) (L := L) (T := T) hN rb1 a2 hp1 s1
  have kb := M_kind (N := N) (B := B) hp1 (Hp m F1 L T)
  have k5 : q_kd B n p1 ≤ 5 := q_kd_le
  unfold q_th
  by_cases hk : q_kd B n p1 = 0
  · rw [if_pos hk]
    rw [if_pos hk] at kb
    obtain ⟨G, g1, g2, g3⟩ := M_must_n (N := N) (m := m) (L := L) (T := T) rb1 a2 hp1 s1
    refine ⟨fun f hf => ?_, fun r hr => by cases hr⟩
    cases hf
    refine ⟨G, ?_, g2, a3.r3.trans g3⟩
    simp only [f_X12_readThing, f_X12_readThing_0, f_X12_readThing_33, f_X12_begins, f_X12_begins_0, f_X12_begins_15, e3, e34, a1, nm, kb, s1, g1, M_36_f g2, gI_0, gI_2, gI_4, gI_9, gI_15, gI_21, gI_49, gP_0, gP_2, gP_4, gP_9, gP_15, gP_21, gP_49, gR_0, gR_2, gR_4, gR_9, gR_15, gR_21, gR_49, gL_53, gL_54, oPz_0, oPz_1, Option.bind_some, c10, c01, cm1, c00, if_true, if_false, ne_eq, not_true_eq_false, not_false_eq_true]
  · rw [if_neg hk]
    rw [if_neg hk] at kb
    have ek : ¬ nI (q_kd B n p1) = -1000000 := by
      intro q
      rw [fa_eq, nI_toInt (by omega)] at q
      have : (-1000000 : Int32).toInt = -1000000 := by decide
      omega
    obtain ⟨F2, b1, b2, b3⟩ := M_must_y (N := N) (m := m) (L := L) (T := T) hN rb1 a2 hp1 s1
    have hp2 := (q_E_b (B := B) hp1).2
    generalize q_E B n p1 = p2 at *
    generalize q_kd B n p1 = kd at *
    have rb2 := rb1.mv2 b3
    have s2 : F2 49 15 = 0 := by rw [b3.2 15 (by decide)]; exact s1
    have fr2 : q_R3 F F2 := (a3.trans b3).r3
    have st : f_X12_readThing N (Hp m F L T) (some 49) = f_X12_readThing_36 N (Hp m F2 L T) (some 49) (nI kd) := by
      simp only [f_X12_readThing, f_X12_readThing_0, f_X12_readThing_33, f_X12_begins, f_X12_begins_0, f_X12_begins_15, e3, e34, a1, nm, kb, s1, ek, b1, gI_0, gI_2, gI_4, gI_9, gI_15, gI_21, gI_49, gP_0, gP_2, gP_4, gP_9, gP_15, gP_21, gP_49, gR_0, gR_2, gR_4, gR_9, gR_15, gR_21, gR_49, gL_53, gL_54, oPz_0, oPz_1, Option.bind_some, c10, c01, cm1, c00, if_true, if_false, ne_eq, not_true_eq_false, not_false_eq_true]
    rw [st]
    cases h1 : q_nm B n 0 7 p2 with
    | inl k =>
      obtain ⟨v, G, g1, g2, g3⟩ := M_num_n (N := N) (m := m) (L := L) (T := T) hN rb2 b2 hp2 s2 (by decide) (by decide) h1
      rw [show nI 0 = 0 from rfl, show nI 7 = 7 from rfl] at g1
      refine ⟨fun f hf => ?_, fun r hr => by cases hr⟩
      cases hf
      refine ⟨G, ?_, g2, fr2.trans g3⟩
      simp only [f_X12_readThing_36, f_X12_readThing_99, g1, M_end_f g2, g2.ne, gI_0, gI_2, gI_4, gI_9, gI_15, gI_21, gI_49, gP_0, gP_2, gP_4, gP_9, gP_15, gP_21, gP_49, gR_0, gR_2, gR_4, gR_9, gR_15, gR_21, gR_49, gL_53, gL_54, oPz_0, oPz_1, Option.bind_some, c10, c01, cm1, c00, if_true, if_false, ne_eq, not_true_eq_false, not_false_eq_true]
    | inr w =>
      obtain ⟨F3, c1, c2, c3⟩ := M_num_y (N := N) (m := m) (L := L) (T := T) hN rb2 b2 hp2 s2 (by decide) (by decide) h1
      rw [show nI 0 = 0 from rfl, show nI 7 = 7 from rfl] at c1
      obtain ⟨-, -, -, vw⟩ := q_nm_r h1
      have hp3 := (q_E_b (B := B) hp2).2
      generalize q_E B n p2 = p3 at *
      have rb3 := rb2.mv2 c3
      have s3 : F3 49 15 = 0 := by rw [c3.2 15 (by decide)]; exact s2
      have fr3 : q_R3 F F3 := fr2.trans c3.r3
      dsimp only
      by_cases h4 : q_K B n p3 = 3
      · rw [if_pos h4]
        obtain ⟨F4, d1, d2, d3⟩ := M_end_y (N := N) (m := m) (L := L) (T := T) hN rb3 c2 hp3 s3 h4
        have s4 : F4 49 15 = 0 := by rw [d3.2 15 (by decide)]; exact s3
        have k46 : F4 54 = F 54 := (d3.1 54 (by decide)).trans ((c3.1 54 (by decide)).trans ((b3.1 54 (by decide)).trans (a3.1 54 (by decide))))
        have x3 : F4 54 3 = nI (P 3) := by rw [k46]; exact e3
        have i5 : (5 : Int32) + 2 * nI (P 3) = nI (5 + 2 * P 3) := by rw [show (5 : Int32) = nI 5 from rfl, show (2 : Int32) = nI 2 from rfl, pk_mul, nI_add]
        have x4 : up2 F4 54 (5 + 2 * P 3) (nI kd) 54 3 = nI (P 3) := by rw [up2_o (by omega)]; exact x3
        have x5 : up2 (up2 F4 54 (5 + 2 * P 3) (nI kd)) 54 (6 + 2 * P 3) (nI w) 54 3 = nI (P 3) := by rw [up2_o (by omega)]; exact x4
        have i6 : 5 + 2 * P 3 + 1 = 6 + 2 * P 3 := by omega
        generalize hG : up2 (up2 (up2 F4 54 (5 + 2 * P 3) (nI kd)) 54 (6 + 2 * P 3) (nI w)) 54 3 (nI (P 3 + 1)) = G
        have g41 : G 49 = F4 49 := by rw [← hG, up2_ne (by decide), up2_ne (by decide), up2_ne (by decide)]
        refine ⟨fun f hf => (by cases hf), fun r hr => ?_⟩
        cases hr
        refine ⟨G, ?_, ?_, d2.mv g41, by rw [g41]; exact s4, fun i hi => ?_, (q_E_b hp3).2, pw.addT h3 hd (by omega) k5 vw⟩
        · simp only [f_X12_readThing_36, f_X12_readThing_99, c1, d1, s4, x3, i5, (gN_54 (show 5 + 2 * P 3 < 39 by omega)).2, x4, nI_1, i6, (gN_54 (show 6 + 2 * P 3 < 39 by omega)).2, x5, hG, gI_0, gI_2, gI_4, gI_9, gI_15, gI_21, gI_49, gP_0, gP_2, gP_4, gP_9, gP_15, gP_21, gP_49, gR_0, gR_2, gR_4, gR_9, gR_15, gR_21, gR_49, gL_53, gL_54, oPz_0, oPz_1, Option.bind_some, c10, c01, cm1, c00, if_true, if_false, ne_eq, not_true_eq_false, not_false_eq_true]
        · rw [← hG]; exact (fr3.trans d3.r3).trans (q_R3.fr.trans (q_R3.fr.trans q_R3.fr))
        · dsimp only
          rw [← hG]
          by_cases j3 : i = 3
          · subst j3; rw [up2_s, q_aT3]
          · rw [up2_o j3]
            by_cases j6 : i = 6 + 2 * P 3
            · subst j6; rw [up2_s, q_aTw]
            · rw [up2_o j6]
              by_cases j5 : i = 5 + 2 * P 3
              · subst j5; rw [up2_s, q_aTk]
              · rw [up2_o j5, k46, q_aTn j3 j5 j6]; exact pf i hi
      · rw [if_neg h4]
        obtain ⟨G, g1, g2, g3⟩ := M_end_n (N := N) (m := m) (L := L) (T := T) rb3 c2 hp3 s3 h4
        refine ⟨fun f hf => ?_, fun r hr => by cases hr⟩
        cases hf
        refine ⟨G, ?_, g2, fr3.trans g3⟩
        simp only [f_X12_readThing_36, f_X12_readThing_99, c1, g1, g2.ne, gI_0, gI_2, gI_4, gI_9, gI_15, gI_21, gI_49, gP_0, gP_2, gP_4, gP_9, gP_15, gP_21, gP_49, gR_0, gR_2, gR_4, gR_9, gR_15, gR_21, gR_49, gL_53, gL_54, oPz_0, oPz_1, Option.bind_some, c10, c01, cm1, c00, if_true, if_false, ne_eq, not_true_eq_false, not_false_eq_true]
end RO
