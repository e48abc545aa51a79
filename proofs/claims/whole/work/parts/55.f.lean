/-! PORT, both -/
theorem PC.gr {m m' p : Nat} {F H : Nat → Nat → Int32} {L L' : Nat → Nat → Option Nat} {T T' P : Nat → Nat} (h : PC m F L T p P) (hm : m ≤ m') (e1 : H p = F p) (e2 : H (p + 4) = F (p + 4) ∧ H (p + 2) = F (p + 2)) (e3 : L' (p + 3) = L (p + 3)) (e4 : ∀ t, 62 ≤ t → t < 62 + m → H t = F t ∧ T' t = T t) : PC m' H L' T' p P := by
  obtain ⟨h0, h1, h2, h3, h4, h5, h6, h7, h8⟩ := h
  unfold PC
  rw [e1, e2.1, e2.2]
  refine ⟨h0, h1, h2, h3, h4, h5, h6, fun i hi => ?_, h8⟩
  obtain ⟨t, q1, q2, q3, q4, q5, q6⟩ := h7 i hi
  obtain ⟨x1, x2⟩ := e4 t q2 q3
  exact ⟨t, by rw [e3]; exact q1, q2, by omega, by rw [x2]; exact q4, by rw [x1]; exact q5, by rw [x1]; exact q6⟩
theorem ImgR.gr {m m' : Nat} {F H : Nat → Nat → Int32} {L L' : Nat → Nat → Option Nat} {T T' : Nat → Nat} (h : ImgR m F L T) (ok : OkL m' L' T') (hm : m ≤ m') (e1 : ∀ p, (39 ≤ p ∧ p ≤ 48 ∨ p = 59 ∨ p = 60) → H p = F p) (e3 : ∀ p, 39 ≤ p → L' p = L p) (e4 : ∀ t, 62 ≤ t → t < 62 + m → H t = F t ∧ T' t = T t) : ImgR m' H L' T' := by
  refine ⟨ok, fun k hk => ?_⟩
  rcases h.2 k hk with ⟨a, b⟩ | ⟨a, P, b, c, d, e⟩
  · left
    rw [e1 59 (by omega), e1 (39 + 5 * k) (by omega)]
    exact ⟨a, b⟩
  · right
    rw [e1 59 (by omega), e1 60 (by omega)]
    exact ⟨a, P, b, c, d, e.gr hm (e1 _ (by omega)) ⟨e1 _ (by omega), e1 _ (by omega)⟩ (e3 _ (by omega)) e4⟩
theorem OkL.gr {m m' : Nat} {L L' : Nat → Nat → Option Nat} {T T' : Nat → Nat} (h : OkL m L T) (hm : m ≤ m') (e3 : ∀ p, p ≠ 12 → L' p = L p) (e4 : ∀ t, t < 62 + m → T' t = T t) (e5 : q_Ok m L T → q_Ok m' L' T') : OkL m' L' T' := by
  intro p hp i hi
  by_cases h8 : p = 12
  · subst h8
    exact e5 (fun i hi => h 12 (by omega) i hi) i hi
  · rw [e3 p h8]
    rcases h p hp i hi with q | ⟨t, q1, q2, q3, q4⟩
    · exact Or.inl q
    · exact Or.inr ⟨t, q1, q2, by omega, by rw [e4 t q3]; exact q4⟩
theorem o_port (N : Nat) (hN : 5000 ≤ N) (m : Nat) (F : Nat → Nat → Int32) (L : Nat → Nat → Option Nat) (T : Nat → Nat) (hm : m ≤ 3000) (R : Rel m F L T) : OpOk (fun A => f_X11_port N A (some 0) ) (fun A => f_X12_port N A (some 49) ) m F L T := by
  obtain ⟨n, hn, t1, t2, t3⟩ := R.2.1
  generalize hB : (fun i => (F 55 i).toNatClampNeg) = B
  have b3 : ∀ i, i < n → B i < 256 ∧ F 55 i = nI (B i) ∧ F 3 i = sB (B i) := by
    intro i hi
    obtain ⟨b, h1, h2, h3⟩ := t3 i hi
    have e : B i = b := by
      rw [← hB]
      show (F 55 i).toNatClampNeg = b
      rw [h2, nI_clamp (by omega)]
    rw [e]
    exact ⟨h1, h2, h3⟩
  have cb : q_CB n B F := ⟨hn, t1, fun i hi => ⟨(b3 i hi).1, (b3 i hi).2.2⟩⟩
  obtain ⟨c1, c2⟩ := X6_rI (N := N) (m := m) (L := L) (T := T) hN cb
  have z0 : (0 + 0 ≤ 4 ∧ 0 + 0 ≤ 8) = True := eq_true ⟨by omega, by omega⟩
  have z1 : (0 + 0 + 4 ≤ 4 ∧ 0 + 0 + 8 ≤ 8) = True := eq_true ⟨by omega, by omega⟩
  have z2 : (0 + 0 + 4 + 0 ≤ 4 ∧ 0 + 0 + 8 + 0 ≤ 8) = True := eq_true ⟨by omega, by omega⟩
  have z3 : (0 + 0 + 4 + 0 + 0 ≤ 4 ∧ 0 + 0 + 8 + 0 + 0 ≤ 8) = True := eq_true ⟨by omega, by omega⟩
  obtain ⟨r1, r2, r3, r4, r5, r6, r7⟩ := R
  cases hq : q_port B n with
  | inl f =>
    obtain ⟨G, g1, ⟨k2, -⟩, g4, g5, g6⟩ := c1 f hq
    have gn : ∀ q, q ≠ 2 → q ≠ 9 → (q < 10 ∨ 13 < q) → G q = F q := fun q a b c => by have := k2 q a b c; rw [up2_ne a] at this; exact this
    generalize hF1 : up2 G 0 7 (nI f.1) = F1
    have f1n : ∀ q, q ≠ 0 → F1 q = G q := fun q hq => by rw [← hF1, up2_ne hq]
    have f1 : ∀ q, q ≠ 0 → q ≠ 2 → q ≠ 9 → (q < 10 ∨ 13 < q) → F1 q = F q := fun q e a b c => by rw [f1n q e]; exact gn q a b c
    have e3 : F1 2 3 = nI f.2 := by rw [f1n 2 (by decide)]; exact g6
    obtain ⟨p1, -⟩ := M_port (N := N) (m := m) (L := L) (T := T) (F := F1) (B := B) hN hn (by rw [f1 49 (by decide) (by decide) (by decide) (by decide)]; exact t2) (fun i hi => by rw [f1 55 (by decide) (by decide) (by decide) (by decide)]; exact ⟨(b3 i hi).1, (b3 i hi).2.1⟩)
    obtain ⟨H, h1, h2, h3, h4, h5⟩ := p1 f hq
    have hh : ∀ q, q ≠ 49 → q ≠ 54 → q ≠ 0 → q ≠ 2 → q ≠ 9 → (q < 10 ∨ 13 < q) → H q = F q := fun q a b c d e g => by rw [h2 q a b]; exact f1 q c d e g
    have h0k : ∀ k, k ≠ 7 → H 0 k = F 0 k := fun k hk => by rw [h2 0 (by decide) (by decide), ← hF1, up2_o hk, gn 0 (by decide) (by decide) (by decide)]
    have hc : CurR m H L T := r3.same (hh 4 (by decide) (by decide) (by decide) (by decide) (by decide) (by decide)) (hh 8 (by decide) (by decide) (by decide) (by decide) (by decide) (by decide)) (hh 6 (by decide) (by decide) (by decide) (by decide) (by decide) (by decide)) (by rw [hh 15 (by decide) (by decide) (by decide) (by decide) (by decide) (by decide)]; exact ⟨rfl, rfl, rfl, rfl⟩) (hh 53 (by decide) (by decide) (by decide) (by decide) (by decide) (by decide)) (fun t ht => hh t (by omega) (by omega) (by omega) (by omega) (by omega) (by omega))
    refine ⟨-1000100 - nI f.2, m, F1, L, T, H, ?_, h1, ⟨r1.same (fun p hp => hh p (by omega) (by omega) (by omega) (by omega) (by omega) (by omega)), ⟨0, by omega, ?_, h4, fun i hi => by omega⟩, hc, r4.same (fun p hp => hh p (by omega) (by omega) (by omega) (by omega) (by omega) (by omega)), ?_, ?_, ?_⟩, by omega⟩
    · simp only [f_X11_port, f_X11_port_0, g1, g5, hF1, e3, z0, gI_0, gI_2, gI_4, gI_9, gI_15, gI_21, gI_49, gP_0, gP_2, gP_4, gP_9, gP_15, gP_21, gP_49, gR_0, gR_2, gR_4, gR_9, gR_15, gR_21, gR_49, gL_53, gL_54, oPz_0, oPz_1, Option.bind_some, c10, c01, cm1, c00, if_true, if_false, ne_eq, not_true_eq_false, not_false_eq_true]
    · rw [h2 2 (by decide) (by decide), f1n 2 (by decide)]; exact g4
    · rw [h5, h2 0 (by decide) (by decide), ← hF1, up2_s]
    · rw [h0k 8 (by decide), h3 1 (Or.inl rfl), f1 49 (by decide) (by decide) (by decide) (by decide)]; exact r6
    · exact r7.same (by rw [hh 21 (by decide) (by decide) (by decide) (by decide) (by decide) (by decide)]) (by rw [h3 30 (by omega), f1 49 (by decide) (by decide) (by decide) (by decide)]) (hh 22 (by decide) (by decide) (by decide) (by decide) (by decide) (by decide)) (hh 61 (by decide) (by decide) (by decide) (by decide) (by decide) (by decide))
  | inr r =>
    obtain ⟨G0, g1, ⟨k2, -⟩, g4', g5', qd, qw⟩ := c2 r hq
    have qd0 := qd
    obtain ⟨G, L', T', mk, m1, k4, k5, d7, k6⟩ := X2_mk (N := N) (m := m) (L := L) (T := T) hN (by omega) qw qd
    obtain ⟨d1, d2, d3, d4, d5, d6, d7w, d8⟩ := qd
    have w2 := qw.2.2.1
    have w3 := qw.2.2.2.2.1
    have g7 := m1 9 (by omega)
    have g9 := m1 13 (by omega)
    have gdw := m1 11 (by omega)
    generalize hm' : m + r.1 3 = m' at *
    have k1 : m ≤ m' := by omega
    have g3 : m' ≤ m + 4 := by omega
    have g4 : G 2 1 = 0 := by rw [m1 2 (by omega)]; exact g4'
    have g5 : G 9 0 = 1 := by rw [g7]; exact g5'
    have gn : ∀ q, q ≠ 2 → q ≠ 9 → (q < 10 ∨ 13 < q) → q < 62 + m → G q = F q := fun q a b c d => by have := k2 q a b c; rw [up2_ne a] at this; rw [m1 q d]; exact this
    have gt : ∀ t, 62 ≤ t → t < 62 + m → G t = F t ∧ T' t = T t := fun t a b => ⟨gn t (by omega) (by omega) (by omega) b, k5 t b⟩
    have pv : PV r.1 := qw.pv
    have pc7 : PC m' G L' T' 9 r.1 := by
      refine ⟨by rw [if_neg (by omega)]; exact g5, ?_, ?_, ?_, ?_, ?_, ?_, d7, fun j hj => ?_, fun i hi => ?_⟩
      · rw [g7]; exact d1
      · rw [g7]; exact d2
      · rw [g7]; exact d3
      · rw [g7]; exact d4
      · rw [g7]; exact d5
      · rw [g7]; exact d6
      · rw [show 9 + 4 = 13 from rfl, g9]; exact d8 j hj
      · rw [show 9 + 2 = 11 from rfl, gdw]; exact (d7w i hi).2
    have ok := r4.1.gr k1 k4 k5 k6
    have p4 : isPt 4 := Or.inl rfl
    have p7 : isPt 9 := Or.inr (Or.inl rfl)
    obtain ⟨F2, L2, b1, b2, b3', b4, b5, b6⟩ := X2_bec (N := N) (m := m') (F := G) (L := L') (T := T') (p := 4) (q := 9) hN p4 p7 (by omega) (fun i hi => ok 12 (by omega) i hi) (Or.inr g5)
    generalize hF1 : up2 F2 15 1 0 = F1
    have f1n : ∀ q, q ≠ 15 → F1 q = F2 q := fun q hq => by rw [← hF1, up2_ne hq]
    have f111 : F1 15 1 = 0 := by rw [← hF1, up2_s]
    have f1 : ∀ q, q ≠ 15 → q ≠ 2 → (q < 4 ∨ 13 < q) → q < 62 + m → F1 q = F q := fun q e a b d => by rw [f1n q e, b4 q (by omega)]; exact gn q a (by omega) (by omega) d
    have e5 : F1 4 5 = nI (r.1 4) := by rw [f1n 4 (by decide), b2 5 (by decide), g7]; exact d5
    obtain ⟨-, p1⟩ := M_port (N := N) (m := m') (L := L2) (T := T') (F := F1) (B := B) hN hn (by rw [f1 49 (by decide) (by decide) (by decide) (by omega)]; exact t2) (fun i hi => by rw [f1 55 (by decide) (by decide) (by decide) (by omega)]; exact ⟨(b3 i hi).1, (b3 i hi).2.1⟩)
    obtain ⟨H, h1, h2, h3, h4, h5⟩ := p1 r hq
    have hg : ∀ q, q ≠ 49 → q ≠ 53 → q ≠ 54 → q ≠ 15 → H q = F2 q := fun q a b c d => by rw [h2 q a b c, f1n q d]
    have hh : ∀ q, q ≠ 49 → q ≠ 53 → q ≠ 54 → q ≠ 15 → q ≠ 2 → (q < 4 ∨ 13 < q) → q < 62 + m → H q = F q := fun q a b c d e g i => by rw [h2 q a b c]; exact f1 q d e g i
    have ht : ∀ t, 62 ≤ t → t < 62 + m → H t = F t ∧ T' t = T t := fun t a b => ⟨hh t (by omega) (by omega) (by omega) (by omega) (by omega) (by omega) b, k5 t b⟩
    have ok2 : OkL m' L2 T' := ok.mv p4 p7 b5 b6
    refine ⟨nI (r.1 4), m', F1, L2, T', H, ?_, h1, ⟨r1.same (fun p hp => hh p (by omega) (by omega) (by omega) (by omega) (by omega) (by omega) (by omega)), ⟨0, by omega, ?_, h4, fun i hi => by omega⟩, ?_, r4.gr ok2 k1 (fun p hp => hh p (by omega) (by omega) (by omega) (by omega) (by omega) (by omega) (by omega)) (fun p hp => by rw [b5 p (by omega)]; exact k4 p (by omega)) ht, ?_, ?_, ?_⟩, g3⟩
    · have e1 : ¬ (1 : Int32) = 0 := by decide
      simp only [f_X11_port, f_X11_port_0, g1, e1, mk, b1, f_X10_forget, f_X10_forget_0, hF1, e5, z0, z1, z2, z3, gI_0, gI_2, gI_4, gI_9, gI_15, gI_21, gI_49, gP_0, gP_2, gP_4, gP_9, gP_15, gP_21, gP_49, gR_0, gR_2, gR_4, gR_9, gR_15, gR_21, gR_49, gL_53, gL_54, oPz_0, oPz_1, Option.bind_some, c10, c01, cm1, c00, if_true, if_false, ne_eq, not_true_eq_false, not_false_eq_true]
    · rw [hg 2 (by decide) (by decide) (by decide) (by decide), b4 2 (by decide)]; exact g4
    · refine ⟨r.1, pv, ⟨fun i hi => h5 i (by omega), fun i hi => ?_, fun j hj => ?_⟩, pc7.mv pv (fun k hk => ?_) ⟨fun j hj => ?_, fun j hj => ?_⟩ b6 (fun t ht => ?_), Or.inl ?_⟩
      · exact ⟨h5 _ (by omega), h5 _ (by omega)⟩
      · have := qw.2.2.2.2.2.1
        exact h5 _ (by omega)
      · rw [hg 4 (by decide) (by decide) (by decide) (by decide)]; exact b2 k hk
      · rw [hg _ (by decide) (by decide) (by decide) (by decide)]; exact b3'.1 j hj
      · rw [hg _ (by decide) (by decide) (by decide) (by decide)]; exact b3'.2 j hj
      · rw [hg t (by omega) (by omega) (by omega) (by omega), b4 t (by omega)]
      · rw [h2 15 (by decide) (by decide) (by decide)]; exact f111
    · rw [hh 0 (by decide) (by decide) (by decide) (by decide) (by decide) (by decide) (by omega), h3 9 (by omega), f1 49 (by decide) (by decide) (by decide) (by omega)]; exact r5
    · rw [hh 0 (by decide) (by decide) (by decide) (by decide) (by decide) (by decide) (by omega), h3 1 (by omega), f1 49 (by decide) (by decide) (by decide) (by omega)]; exact r6
    · exact r7.same (by rw [hh 21 (by decide) (by decide) (by decide) (by decide) (by decide) (by decide) (by omega)]) (by rw [h3 30 (by omega), f1 49 (by decide) (by decide) (by decide) (by omega)]) (hh 22 (by decide) (by decide) (by decide) (by decide) (by decide) (by decide) (by omega)) (hh 61 (by decide) (by decide) (by decide) (by decide) (by decide) (by decide) (by omega))
