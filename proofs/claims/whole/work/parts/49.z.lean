/-! PORT, what is read: a fault (its number, its place), or a port -/
def q_law (B : Nat → Nat) (n p : Nat) : (Nat × Nat) ⊕ ((Nat → Nat) × Nat) :=
  if q_isW B n p 0 = true then
    match q_nm B n 0 3 (q_E B n p) with
    | .inl k => .inl (k, q_S B n (q_E B n p))
    | .inr a => match q_nm B n 0 1 (q_E B n (q_E B n p)) with
      | .inl k => .inl (k, q_S B n (q_E B n (q_E B n p)))
      | .inr b => match q_nm B n 2 200 (q_E B n (q_E B n (q_E B n p))) with
        | .inl k => .inl (k, q_S B n (q_E B n (q_E B n (q_E B n p))))
        | .inr c => if q_K B n (q_E B n (q_E B n (q_E B n (q_E B n p)))) = 3 then .inr (fun j => if j = 0 then a else if j = 1 then b else if j = 2 then c else 0, q_E B n (q_E B n (q_E B n (q_E B n (q_E B n p)))))
          else .inl (1, q_S B n (q_E B n (q_E B n (q_E B n (q_E B n p)))))
  else .inl (1, q_S B n p)
def q_th (B : Nat → Nat) (n : Nat) (P : Nat → Nat) (p : Nat) : (Nat × Nat) ⊕ ((Nat → Nat) × Nat) :=
  if q_kd B n p = 0 then .inl (1, q_S B n p) else
    match q_nm B n 0 7 (q_E B n p) with
    | .inl k => .inl (k, q_S B n (q_E B n p))
    | .inr w => if q_K B n (q_E B n (q_E B n p)) = 3 then .inr (q_addT P (q_kd B n p) w, q_E B n (q_E B n (q_E B n p))) else .inl (1, q_S B n (q_E B n (q_E B n p)))
def q_ths (B : Nat → Nat) (n : Nat) : Nat → (Nat → Nat) → Nat → (Nat × Nat) ⊕ ((Nat → Nat) × Nat)
  | 0, P, p => .inr (P, p)
  | k + 1, P, p => if q_isW B n p 1 = true then (if P 3 = 4 then .inl (3, q_S B n p) else
      match q_th B n P (q_E B n p) with
      | .inl f => .inl f
      | .inr r => q_ths B n k r.1 r.2) else .inr (P, p)
def q_dy (B : Nat → Nat) (n : Nat) (P : Nat → Nat) (p : Nat) : (Nat × Nat) ⊕ ((Nat → Nat) × Nat) :=
  match q_nm B n 0 (2 ^ P 3 - 1) p with
  | .inl k => .inl (k, q_S B n p)
  | .inr s => if q_K B n (q_E B n p) = 3 then .inr (q_addD P s, q_E B n (q_E B n p)) else .inl (1, q_S B n (q_E B n p))
def q_dys (B : Nat → Nat) (n : Nat) : Nat → (Nat → Nat) → Nat → (Nat × Nat) ⊕ ((Nat → Nat) × Nat)
  | 0, P, p => .inr (P, p)
  | k + 1, P, p => if q_isW B n p 7 = true then (if P 4 = 12 then .inl (3, q_S B n p) else
      match q_dy B n P (q_E B n p) with
      | .inl f => .inl f
      | .inr r => q_dys B n k r.1 r.2) else .inr (P, p)
def q_end (B : Nat → Nat) (n : Nat) (P : Nat → Nat) (p : Nat) : (Nat × Nat) ⊕ ((Nat → Nat) × Nat) := if q_K B n p = 0 then .inr (P, p) else .inl (1, q_S B n p)
def q_port (B : Nat → Nat) (n : Nat) : (Nat × Nat) ⊕ ((Nat → Nat) × Nat) :=
  match q_law B n 0 with
  | .inl f => .inl f
  | .inr r => match q_ths B n 5 r.1 r.2 with
    | .inl f => .inl f
    | .inr r => match q_dys B n 13 r.1 r.2 with
      | .inl f => .inl f
      | .inr r => q_end B n r.1 r.2
/-- what the class's reading gives -/
def q_CO (n : Nat) (B : Nat → Nat) (m : Nat) (F : Nat → Nat → Int32) (L : Nat → Nat → Option Nat) (T : Nat → Nat) (c : Option (Int32 × hP)) (o : (Nat × Nat) ⊕ ((Nat → Nat) × Nat)) : Prop :=
  (∀ f, o = .inl f → ∃ G, c = some (0, Hp m G L T) ∧ q_Fr F G ∧ G 2 2 = nI f.1 ∧ G 2 3 = nI f.2) ∧
  (∀ r, o = .inr r → ∃ G, c = some (1, Hp m G L T) ∧ q_Fr F G ∧ q_CT n B G r.2 ∧ q_D G r.1 ∧ q_W r.1 ∧ r.2 ≤ n)
section RD
variable {N n : Nat} {B : Nat → Nat} {m : Nat} {F : Nat → Nat → Int32} {L : Nat → Nat → Option Nat} {T : Nat → Nat} {P : Nat → Nat} {p : Nat}
theorem q_D.mv2 {G : Nat → Nat → Int32} (d : q_D F P) (e : q_C2 F G) : q_D G P := d.mv e.1
theorem X6_law (hN : 5000 ≤ N) (cb : q_CB n B F) (ct : q_CT n B F p) (hp : p ≤ n) (z : ∀ k, 4 ≤ k → k < 7 → F 9 k = 0) : q_CO n B m F L T (f_X6_readLaw N (Hp m F L T) (some 2) (some 9)) (q_law B n p) := by
  have w : f_X6_isWord N (Hp m F L T) (some 2) (some 1000000) = _ := X6_isW (i := 0) hN (by decide) cb ct hp
  unfold q_law
  by_cases h0 : q_isW B n p 0 = true
  · rw [if_pos h0]
    rw [if_pos h0] at w
    obtain ⟨F1, a1, a2, a3, -⟩ := X6_adv (N := N) (m := m) (L := L) (T := T) (F := F) (p := q_E B n p) hN cb ct.1 (q_E_b hp).2
    have hp1 := (q_E_b (B := B) hp).2
    generalize q_E B n p = p1 at *
    have cb1 := cb.mv a3
    cases h1 : q_nm B n 0 3 p1 with
    | inl k =>
      obtain ⟨G, g1, g2, g3, g4⟩ := X6_tN_n (N := N) (m := m) (L := L) (T := T) hN cb1 a2 hp1 (by decide) (by decide) h1
      refine ⟨fun f hf => ?_, fun r hr => by cases hr⟩
      cases hf
      refine ⟨G, ?_, (a3.trans g2).fr, g3, g4⟩
      rw [show nI 0 = 0 from rfl, show nI 3 = 3 from rfl] at g1
      simp only [f_X6_readLaw, f_X6_readLaw_0, f_X6_readLaw_18, f_X6_takeWord, f_X6_takeWord_0, w, a1, g1, true_or, or_true, gI_0, gI_2, gI_4, gI_9, gI_15, gI_21, gI_49, gP_0, gP_2, gP_4, gP_9, gP_15, gP_21, gP_49, gR_0, gR_2, gR_4, gR_9, gR_15, gR_21, gR_49, gL_53, gL_54, oPz_0, oPz_1, Option.bind_some, c10, c01, cm1, c00, if_true, if_false, ne_eq, not_true_eq_false, not_false_eq_true]
    | inr a =>
      obtain ⟨F2, b1, b2, b3, b4⟩ := X6_tN_y (N := N) (m := m) (L := L) (T := T) hN cb1 a2 hp1 (by decide) (by decide) h1
      obtain ⟨-, -, -, va⟩ := q_nm_r h1
      have hp2 := (q_E_b (B := B) hp1).2
      generalize q_E B n p1 = p2 at *
      rw [show nI 0 = 0 from rfl, show nI 3 = 3 from rfl] at b1
      generalize hF3 : up2 F2 9 1 (nI a) = F3
      have fr3 : q_Fr F F3 := by rw [← hF3]; exact ((a3.trans b2).fr).trans (q_Fr.d (Or.inl rfl))
      have ct3 : q_CT n B F3 p2 := b3.mv (fun k _ _ => by rw [← hF3, up2_ne (by decide)])
      have cb3 := fr3.cb cb
      dsimp only
      cases h2 : q_nm B n 0 1 p2 with
      | inl k =>
        obtain ⟨G, g1, g2, g3, g4⟩ := X6_tN_n (N := N) (m := m) (L := L) (T := T) hN cb3 ct3 hp2 (by decide) (by decide) h2
        refine ⟨fun f hf => ?_, fun r hr => by cases hr⟩
        cases hf
        refine ⟨G, ?_, fr3.trans g2.fr, g3, g4⟩
        rw [show nI 0 = 0 from rfl, show nI 1 = 1 from rfl] at g1
        simp only [f_X6_readLaw, f_X6_readLaw_0, f_X6_takeWord, f_X6_takeWord_0, w, a1, b1, b4, hF3, g1, true_or, or_true, gI_0, gI_2, gI_4, gI_9, gI_15, gI_21, gI_49, gP_0, gP_2, gP_4, gP_9, gP_15, gP_21, gP_49, gR_0, gR_2, gR_4, gR_9, gR_15, gR_21, gR_49, gL_53, gL_54, oPz_0, oPz_1, Option.bind_some, c10, c01, cm1, c00, if_true, if_false, ne_eq, not_true_eq_false, not_false_eq_true]
      | inr b =>
        obtain ⟨F4, c1, c2, c3, c4⟩ := X6_tN_y (N := N) (m := m) (L := L) (T := T) hN cb3 ct3 hp2 (by decide) (by decide) h2
        obtain ⟨-, -, -, vb⟩ := q_nm_r h2
        have hp3 := (q_E_b (B := B) hp2).2
        generalize q_E B n p2 = p3 at *
        rw [show nI 0 = 0 from rfl, show nI 1 = 1 from rfl] at c1
        generalize hF5 : up2 F4 9 2 (nI b) = F5
        have fr5 : q_Fr F F5 := by rw [← hF5]; exact (fr3.trans c2.fr).trans (q_Fr.d (Or.inl rfl))
        have ct5 : q_CT n B F5 p3 := c3.mv (fun k _ _ => by rw [← hF5, up2_ne (by decide)])
        have cb5 := fr5.cb cb
        dsimp only
        cases h3 : q_nm B n 2 200 p3 with
        | inl k =>
          obtain ⟨G, g1, g2, g3, g4⟩ := X6_tN_n (N := N) (m := m) (L := L) (T := T) hN cb5 ct5 hp3 (by decide) (by decide) h3
          refine ⟨fun f hf => ?_, fun r hr => by cases hr⟩
          cases hf
          refine ⟨G, ?_, fr5.trans g2.fr, g3, g4⟩
          rw [show nI 2 = 2 from rfl, show nI 200 = 200 from rfl] at g1
          simp only [f_X6_readLaw, f_X6_readLaw_0, f_X6_takeWord, f_X6_takeWord_0, w, a1, b1, b4, hF3, c1, c4, hF5, g1, true_or, or_true, gI_0, gI_2, gI_4, gI_9, gI_15, gI_21, gI_49, gP_0, gP_2, gP_4, gP_9, gP_15, gP_21, gP_49, gR_0, gR_2, gR_4, gR_9, gR_15, gR_21, gR_49, gL_53, gL_54, oPz_0, oPz_1, Option.bind_some, c10, c01, cm1, c00, if_true, if_false, ne_eq, not_true_eq_false, not_false_eq_true]
        | inr c =>
          obtain ⟨F6, d1, d2, d3, d4⟩ := X6_tN_y (N := N) (m := m) (L := L) (T := T) hN cb5 ct5 hp3 (by decide) (by decide) h3
          obtain ⟨-, -, vc1, vc⟩ := q_nm_r h3
          have hp4 := (q_E_b (B := B) hp3).2
          generalize q_E B n p3 = p4 at *
          rw [show nI 2 = 2 from rfl, show nI 200 = 200 from rfl] at d1
          generalize hF7 : up2 F6 9 3 (nI c) = F7
          have fr7 : q_Fr F F7 := by rw [← hF7]; exact (fr5.trans d2.fr).trans (q_Fr.d (Or.inl rfl))
          have ct7 : q_CT n B F7 p4 := d3.mv (fun k _ _ => by rw [← hF7, up2_ne (by decide)])
          have cb7 := fr7.cb cb
          dsimp only
          by_cases h4 : q_K B n p4 = 3
          · rw [if_pos h4]
            obtain ⟨G, g1, g2, g3⟩ := X6_tS_y (N := N) (m := m) (L := L) (T := T) hN cb7 ct7 hp4 h4
            refine ⟨fun f hf => (by cases hf), fun r hr => ?_⟩
            cases hr
            refine ⟨G, ?_, fr7.trans g2.fr, g3, ?_, ?_, (q_E_b hp4).2⟩
            · simp only [f_X6_readLaw, f_X6_readLaw_0, f_X6_takeWord, f_X6_takeWord_0, w, a1, b1, b4, hF3, c1, c4, hF5, d1, d4, hF7, g1, true_or, or_true, gI_0, gI_2, gI_4, gI_9, gI_15, gI_21, gI_49, gP_0, gP_2, gP_4, gP_9, gP_15, gP_21, gP_49, gR_0, gR_2, gR_4, gR_9, gR_15, gR_21, gR_49, gL_53, gL_54, oPz_0, oPz_1, Option.bind_some, c10, c01, cm1, c00, if_true, if_false, ne_eq, not_true_eq_false, not_false_eq_true]
            · have s7 : F6 9 = F5 9 := d2.1 9 (by decide)
              have s5 : F4 9 = F3 9 := c2.1 9 (by decide)
              have s3 : F2 9 = F 9 := (b2.1 9 (by decide)).trans (a3.1 9 (by decide))
              have k3 : F7 9 3 = nI c := by rw [← hF7, up2_s]
              have k2 : F7 9 2 = nI b := by rw [← hF7, up2_o (by decide), s7, ← hF5, up2_s]
              have k1 : F7 9 1 = nI a := by rw [← hF7, up2_o (by decide), s7, ← hF5, up2_o (by decide), s5, ← hF3, up2_s]
              have kk : ∀ k, 4 ≤ k → k < 7 → F7 9 k = 0 := fun k h4 hk => by rw [← hF7, up2_o (by omega), s7, ← hF5, up2_o (by omega), s5, ← hF3, up2_o (by omega), s3]; exact z k h4 hk
              unfold q_D
              rw [g2.1 9 (by decide), k1, k2, k3, kk 4 (by decide) (by decide), kk 5 (by decide) (by decide), kk 6 (by decide) (by decide)]
              exact ⟨rfl, rfl, rfl, rfl, rfl, rfl, fun i hi => absurd hi (Nat.not_lt_zero _), fun j hj => absurd hj (Nat.not_lt_zero _)⟩
            · exact ⟨va, vb, vc1, vc, Nat.zero_le _, Nat.zero_le _, fun i hi => absurd hi (Nat.not_lt_zero _), fun j hj => absurd hj (Nat.not_lt_zero _)⟩
          · rw [if_neg h4]
            obtain ⟨G, g1, g2, g3, g4⟩ := X6_tS_n (N := N) (m := m) (L := L) (T := T) ct7 h4
            refine ⟨fun f hf => ?_, fun r hr => by cases hr⟩
            cases hf
            refine ⟨G, ?_, fr7.trans g2.fr, g3, g4⟩
            simp only [f_X6_readLaw, f_X6_readLaw_0, f_X6_takeWord, f_X6_takeWord_0, w, a1, b1, b4, hF3, c1, c4, hF5, d1, d4, hF7, g1, true_or, or_true, gI_0, gI_2, gI_4, gI_9, gI_15, gI_21, gI_49, gP_0, gP_2, gP_4, gP_9, gP_15, gP_21, gP_49, gR_0, gR_2, gR_4, gR_9, gR_15, gR_21, gR_49, gL_53, gL_54, oPz_0, oPz_1, Option.bind_some, c10, c01, cm1, c00, if_true, if_false, ne_eq, not_true_eq_false, not_false_eq_true]
  · rw [if_neg h0]
    rw [if_neg h0] at w
    obtain ⟨G, g1, g2, g3, g4⟩ := X6_fail (N := N) (m := m) (L := L) (T := T) (x := 1) ct.2.1
    refine ⟨fun f hf => ?_, fun r hr => by cases hr⟩
    cases hf
    refine ⟨G, ?_, g2.fr, g3, g4⟩
    simp only [f_X6_readLaw, f_X6_readLaw_0, f_X6_readLaw_18, f_X6_takeWord, f_X6_takeWord_0, w, g1, true_or, or_true, gI_0, gI_2, gI_4, gI_9, gI_15, gI_21, gI_49, gP_0, gP_2, gP_4, gP_9, gP_15, gP_21, gP_49, gR_0, gR_2, gR_4, gR_9, gR_15, gR_21, gR_49, gL_53, gL_54, oPz_0, oPz_1, Option.bind_some, c10, c01, cm1, c00, if_true, if_false, ne_eq, not_true_eq_false, not_false_eq_true]
theorem X6_th (hN : 5000 ≤ N) (cb : q_CB n B F) (ct : q_CT n B F p) (hp : p ≤ n) (d : q_D F P) (pw : q_W P) (h3 : P 3 < 4) (hd : P 4 = 0) : q_CO n B m F L T (f_X6_readThing N (Hp m F L T) (some 2) (some 9)) (q_th B n P p) := by
  have s := X6_sort (N := N) (m := m) (L := L) (T := T) hN cb ct hp
  have k5 : q_kd B n p ≤ 5 := q_kd_le
  unfold q_th
  by_cases h0 : q_kd B n p = 0
  · rw [if_pos h0]
    rw [h0, show nI 0 = 0 from rfl] at s
    obtain ⟨G, g1, g2, g3, g4⟩ := X6_fail (N := N) (m := m) (L := L) (T := T) (x := 1) ct.2.1
    refine ⟨fun f hf => ?_, fun r hr => by cases hr⟩
    cases hf
    refine ⟨G, ?_, g2.fr, g3, g4⟩
    simp only [f_X6_readThing, f_X6_readThing_0, s, g1, true_or, or_true, gI_0, gI_2, gI_4, gI_9, gI_15, gI_21, gI_49, gP_0, gP_2, gP_4, gP_9, gP_15, gP_21, gP_49, gR_0, gR_2, gR_4, gR_9, gR_15, gR_21, gR_49, gL_53, gL_54, oPz_0, oPz_1, Option.bind_some, c10, c01, cm1, c00, if_true, if_false, ne_eq, not_true_eq_false, not_false_eq_true]
  · rw [if_neg h0]
    have e0 : ¬ nI (q_kd B n p) = 0 := nI_ne0 (by omega) (by omega)
    obtain ⟨F1, a1, a2, a3, -⟩ := X6_adv (N := N) (m := m) (L := L) (T := T) (F := F) (p := q_E B n p) hN cb ct.1 (q_E_b hp).2
    have hp1 := (q_E_b (B := B) hp).2
    generalize q_E B n p = p1 at *
    generalize q_kd B n p = kd at *
    have cb1 := cb.mv a3
    cases h1 : q_nm B n 0 7 p1 with
    | inl k =>
      obtain ⟨G, g1, g2, g3, g4⟩ := X6_tN_n (N := N) (m := m) (L := L) (T := T) hN cb1 a2 hp1 (by decide) (by decide) h1
      refine ⟨fun f hf => ?_, fun r hr => by cases hr⟩
      cases hf
      refine ⟨G, ?_, (a3.trans g2).fr, g3, g4⟩
      rw [show nI 0 = 0 from rfl, show nI 7 = 7 from rfl] at g1
      simp only [f_X6_readThing, f_X6_readThing_0, s, e0, a1, g1, true_or, or_true, gI_0, gI_2, gI_4, gI_9, gI_15, gI_21, gI_49, gP_0, gP_2, gP_4, gP_9, gP_15, gP_21, gP_49, gR_0, gR_2, gR_4, gR_9, gR_15, gR_21, gR_49, gL_53, gL_54, oPz_0, oPz_1, Option.bind_some, c10, c01, cm1, c00, if_true, if_false, ne_eq, not_true_eq_false, not_false_eq_true]
    | inr w =>
      obtain ⟨F2, b1, b2, b3, b4⟩ := X6_tN_y (N := N) (m := m) (L := L) (T := T) hN cb1 a2 hp1 (by decide) (by decide) h1
      obtain ⟨-, -, -, vw⟩ := q_nm_r h1
      have hp2 := (q_E_b (B := B) hp1).2
      generalize q_E B n p1 = p2 at *
      rw [show nI 0 = 0 from rfl, show nI 7 = 7 from rfl] at b1
      obtain ⟨F3, t1, t2, t3, t4⟩ := X2_addT (N := N) (m := m) (L := L) (T := T) (kd := kd) (w := w) (d.mv2 (a3.trans b2)) h3 k5
      have fr3 : q_Fr F F3 := ((a3.trans b2).fr).trans t3
      have cb3 := fr3.cb cb
      have ct3 : q_CT n B F3 p2 := b3.mv (fun k _ _ => by rw [t4])
      dsimp only
      by_cases h4 : q_K B n p2 = 3
      · rw [if_pos h4]
        obtain ⟨G, g1, g2, g3⟩ := X6_tS_y (N := N) (m := m) (L := L) (T := T) hN cb3 ct3 hp2 h4
        refine ⟨fun f hf => (by cases hf), fun r hr => ?_⟩
        cases hr
        refine ⟨G, ?_, fr3.trans g2.fr, g3, t2.mv2 g2, pw.addT h3 hd (by omega) k5 vw, (q_E_b hp2).2⟩
        simp only [f_X6_readThing, f_X6_readThing_0, s, e0, a1, b1, b4, t1, g1, true_or, or_true, gI_0, gI_2, gI_4, gI_9, gI_15, gI_21, gI_49, gP_0, gP_2, gP_4, gP_9, gP_15, gP_21, gP_49, gR_0, gR_2, gR_4, gR_9, gR_15, gR_21, gR_49, gL_53, gL_54, oPz_0, oPz_1, Option.bind_some, c10, c01, cm1, c00, if_true, if_false, ne_eq, not_true_eq_false, not_false_eq_true]
      · rw [if_neg h4]
        obtain ⟨G, g1, g2, g3, g4⟩ := X6_tS_n (N := N) (m := m) (L := L) (T := T) ct3 h4
        refine ⟨fun f hf => ?_, fun r hr => by cases hr⟩
        cases hf
        refine ⟨G, ?_, fr3.trans g2.fr, g3, g4⟩
        simp only [f_X6_readThing, f_X6_readThing_0, s, e0, a1, b1, b4, t1, g1, true_or, or_true, gI_0, gI_2, gI_4, gI_9, gI_15, gI_21, gI_49, gP_0, gP_2, gP_4, gP_9, gP_15, gP_21, gP_49, gR_0, gR_2, gR_4, gR_9, gR_15, gR_21, gR_49, gL_53, gL_54, oPz_0, oPz_1, Option.bind_some, c10, c01, cm1, c00, if_true, if_false, ne_eq, not_true_eq_false, not_false_eq_true]
theorem q_th_3 {r : (Nat → Nat) × Nat} (hd : P 4 = 0) (h3 : P 3 < 4) (h : q_th B n P p = .inr r) : r.1 3 = P 3 + 1 ∧ r.1 4 = 0 := by
  unfold q_th at h
  split at h
  · cases h
  · split at h
    · cases h
    · split at h
      · cases h
        dsimp only
        rw [q_aT3, q_aTn (by omega) (by omega) (by omega)]
        exact ⟨rfl, hd⟩
      · cases h
end RD
theorem X6_ths {N n : Nat} {B : Nat → Nat} (hN : 5000 ≤ N) : ∀ (k M : Nat) (P : Nat → Nat) (p m : Nat) (F : Nat → Nat → Int32) (L : Nat → Nat → Option Nat) (T : Nat → Nat), q_CB n B F → q_CT n B F p → p ≤ n → q_D F P → q_W P → P 4 = 0 → P 3 + k = 5 → k < M → q_CO n B m F L T (f_X6_readThings_2 N M (Hp m F L T) (some 2) (some 9) (nI (P 3))) (q_ths B n k P p) := by
  intro k
  induction k with
  | zero => intro M P p m F L T cb ct hp d pw hd hk; have := pw.2.2.2.2.1; omega
  | succ k ih =>
    intro M P p m F L T cb ct hp d pw hd hk hM
    have w3 := pw.2.2.2.2.1
    obtain ⟨M, rfl⟩ : ∃ j, M = j + 1 := ⟨M - 1, by omega⟩
    have w : f_X6_isWord N (Hp m F L T) (some 2) (some 1000001) = _ := X6_isW (i := 1) hN (by decide) cb ct hp
    have e4 : ¬ (4 : Int32) < nI (P 3) := nI_nlt (a := 4) (by omega) (by omega)
    rw [f_X6_readThings_2, q_ths]
    by_cases h1 : q_isW B n p 1 = true
    · rw [if_pos h1]
      rw [if_pos h1] at w
      by_cases h3 : P 3 = 4
      · rw [if_pos h3]
        have e3 : nI (P 3) = 4 := by rw [h3]; rfl
        have e4' : ¬ (4 : Int32) < 4 := by decide
        obtain ⟨G, g1, g2, g3, g4⟩ := X6_fail (N := N) (m := m) (L := L) (T := T) (x := 3) ct.2.1
        refine ⟨fun f hf => ?_, fun r hr => by cases hr⟩
        cases hf
        refine ⟨G, ?_, g2.fr, g3, g4⟩
        simp only [e3, e4', w, g1, true_or, or_true, gI_0, gI_2, gI_4, gI_9, gI_15, gI_21, gI_49, gP_0, gP_2, gP_4, gP_9, gP_15, gP_21, gP_49, gR_0, gR_2, gR_4, gR_9, gR_15, gR_21, gR_49, gL_53, gL_54, oPz_0, oPz_1, Option.bind_some, c10, c01, cm1, c00, if_true, if_false, ne_eq, not_true_eq_false, not_false_eq_true]
      · rw [if_neg h3]
        have e3 : ¬ nI (P 3) = 4 := fun q => h3 ((nI_eq (b := 4) (by omega) (by omega)).mp q)
        obtain ⟨F1, a1, a2, a3, -⟩ := X6_adv (N := N) (m := m) (L := L) (T := T) (F := F) (p := q_E B n p) hN cb ct.1 (q_E_b hp).2
        obtain ⟨r1, r2⟩ := X6_th (N := N) (m := m) (L := L) (T := T) hN (cb.mv a3) a2 (q_E_b hp).2 (d.mv2 a3) pw (by omega) hd
        cases hq : q_th B n P (q_E B n p) with
        | inl f =>
          obtain ⟨G, g1, g2, g4, g5⟩ := r1 f hq
          refine ⟨fun f' hf => ?_, fun r hr => by cases hr⟩
          cases hf
          refine ⟨G, ?_, a3.fr.trans g2, g4, g5⟩
          simp only [e3, e4, w, a1, g1, true_or, or_true, gI_0, gI_2, gI_4, gI_9, gI_15, gI_21, gI_49, gP_0, gP_2, gP_4, gP_9, gP_15, gP_21, gP_49, gR_0, gR_2, gR_4, gR_9, gR_15, gR_21, gR_49, gL_53, gL_54, oPz_0, oPz_1, Option.bind_some, c10, c01, cm1, c00, if_true, if_false, ne_eq, not_true_eq_false, not_false_eq_true]
        | inr r =>
          obtain ⟨G, g1, g2, g4, g5, g6, g7⟩ := r2 r hq
          obtain ⟨x3, x4⟩ := q_th_3 hd (by omega) hq
          obtain ⟨s1, s2⟩ := ih M r.1 r.2 m G L T ((a3.fr.trans g2).cb cb) g4 g7 g5 g6 x4 (by omega) (by omega)
          have fr := a3.fr.trans g2
          rw [x3] at s1 s2
          dsimp only
          refine ⟨fun f' hf => ?_, fun r' hr => ?_⟩
          · obtain ⟨G2, y1, y2, y4⟩ := s1 f' hf
            refine ⟨G2, ?_, fr.trans y2, y4⟩
            simp only [e3, e4, w, a1, g1, nI_1, true_or, or_true, gI_0, gI_2, gI_4, gI_9, gI_15, gI_21, gI_49, gP_0, gP_2, gP_4, gP_9, gP_15, gP_21, gP_49, gR_0, gR_2, gR_4, gR_9, gR_15, gR_21, gR_49, gL_53, gL_54, oPz_0, oPz_1, Option.bind_some, c10, c01, cm1, c00, if_true, if_false, ne_eq, not_true_eq_false, not_false_eq_true]
            exact y1
          · obtain ⟨G2, y1, y2, y4⟩ := s2 r' hr
            refine ⟨G2, ?_, fr.trans y2, y4⟩
            simp only [e3, e4, w, a1, g1, nI_1, true_or, or_true, gI_0, gI_2, gI_4, gI_9, gI_15, gI_21, gI_49, gP_0, gP_2, gP_4, gP_9, gP_15, gP_21, gP_49, gR_0, gR_2, gR_4, gR_9, gR_15, gR_21, gR_49, gL_53, gL_54, oPz_0, oPz_1, Option.bind_some, c10, c01, cm1, c00, if_true, if_false, ne_eq, not_true_eq_false, not_false_eq_true]
            exact y1
    · rw [if_neg h1]
      rw [if_neg h1] at w
      refine ⟨fun f hf => (by cases hf), fun r hr => ?_⟩
      cases hr
      refine ⟨F, ?_, q_Fr.refl, ct, d, pw, hp⟩
      simp only [e4, w, f_X6_readThings_47, true_or, or_true, gI_0, gI_2, gI_4, gI_9, gI_15, gI_21, gI_49, gP_0, gP_2, gP_4, gP_9, gP_15, gP_21, gP_49, gR_0, gR_2, gR_4, gR_9, gR_15, gR_21, gR_49, gL_53, gL_54, oPz_0, oPz_1, Option.bind_some, c10, c01, cm1, c00, if_true, if_false, ne_eq, not_true_eq_false, not_false_eq_true]
