/-! PORT, the reference: things, days, the end, the whole -/
def q_then (o : (Nat × Nat) ⊕ ((Nat → Nat) × Nat)) (g : (Nat → Nat) → Nat → (Nat × Nat) ⊕ ((Nat → Nat) × Nat)) : (Nat × Nat) ⊕ ((Nat → Nat) × Nat) :=
  match o with
  | .inl f => .inl f
  | .inr r => g r.1 r.2
theorem q_ths_e {B : Nat → Nat} {n k p : Nat} {P : Nat → Nat} {g : (Nat → Nat) → Nat → (Nat × Nat) ⊕ ((Nat → Nat) × Nat)} : q_then (q_ths B n (k + 1) P p) g = if q_isW B n p 1 = true then (if P 3 = 4 then .inl (3, q_S B n p) else q_then (q_th B n P (q_E B n p)) (fun P p => q_then (q_ths B n k P p) g)) else g P p := by
  rw [q_ths]
  by_cases h1 : q_isW B n p 1 = true
  · rw [if_pos h1, if_pos h1]
    by_cases h2 : P 3 = 4
    · rw [if_pos h2, if_pos h2]; rfl
    · rw [if_neg h2, if_neg h2]
      cases q_th B n P (q_E B n p) with
      | inl f => rfl
      | inr r => rfl
  · rw [if_neg h1, if_neg h1]; rfl
theorem q_dys_e {B : Nat → Nat} {n k p : Nat} {P : Nat → Nat} {g : (Nat → Nat) → Nat → (Nat × Nat) ⊕ ((Nat → Nat) × Nat)} : q_then (q_dys B n (k + 1) P p) g = if q_isW B n p 7 = true then (if P 4 = 12 then .inl (3, q_S B n p) else q_then (q_dy B n P (q_E B n p)) (fun P p => q_then (q_dys B n k P p) g)) else g P p := by
  rw [q_dys]
  by_cases h1 : q_isW B n p 7 = true
  · rw [if_pos h1, if_pos h1]
    by_cases h2 : P 4 = 12
    · rw [if_pos h2, if_pos h2]; rfl
    · rw [if_neg h2, if_neg h2]
      cases q_dy B n P (q_E B n p) with
      | inl f => rfl
      | inr r => rfl
  · rw [if_neg h1, if_neg h1]; rfl
def q_rest2 (B : Nat → Nat) (n : Nat) (P : Nat → Nat) (p : Nat) : (Nat × Nat) ⊕ ((Nat → Nat) × Nat) := q_then (q_dys B n 13 P p) (q_end B n)
def q_rest1 (B : Nat → Nat) (n : Nat) (P : Nat → Nat) (p : Nat) : (Nat × Nat) ⊕ ((Nat → Nat) × Nat) := q_then (q_ths B n 5 P p) (q_rest2 B n)
theorem q_port_e {B : Nat → Nat} {n : Nat} : q_port B n = q_then (q_law B n 0) (q_rest1 B n) := by
  unfold q_port
  cases q_law B n 0 with
  | inl f => rfl
  | inr r =>
    show _ = q_then (q_ths B n 5 r.1 r.2) (q_rest2 B n)
    dsimp only
    cases q_ths B n 5 r.1 r.2 with
    | inl f => rfl
    | inr r =>
      show _ = q_then (q_dys B n 13 r.1 r.2) (q_end B n)
      dsimp only
      cases q_dys B n 13 r.1 r.2 with
      | inl f => rfl
      | inr r => rfl
/-- the reference has read a port -/
def q_RY (c : Option (Int32 × hP)) (m : Nat) (F : Nat → Nat → Int32) (L : Nat → Nat → Option Nat) (T : Nat → Nat) (P : Nat → Nat) : Prop := ∃ G, c = some (nI (P 4), Hp m G L T) ∧ (∀ q, q ≠ 49 → q ≠ 53 → q ≠ 54 → G q = F q) ∧ (∀ k, (k < 11 ∨ 16 < k) → G 49 k = F 49 k) ∧ ∀ i, i < 39 → G 53 i = nI (P i)
def q_RA (c : Option (Int32 × hP)) (m : Nat) (F : Nat → Nat → Int32) (L : Nat → Nat → Option Nat) (T : Nat → Nat) (o : (Nat × Nat) ⊕ ((Nat → Nat) × Nat)) : Prop := (∀ f, o = .inl f → q_RO c m F L T f) ∧ ∀ r, o = .inr r → q_RY c m F L T r.1
theorem q_RA.mono {c : Option (Int32 × hP)} {m : Nat} {F G : Nat → Nat → Int32} {L : Nat → Nat → Option Nat} {T : Nat → Nat} {o : (Nat × Nat) ⊕ ((Nat → Nat) × Nat)} (h : q_RA c m G L T o) (k : q_R3 F G) : q_RA c m F L T o := by
  refine ⟨fun f hf => (h.1 f hf).mono k, fun r hr => ?_⟩
  obtain ⟨H, h1, h2, h3, h4⟩ := h.2 r hr
  exact ⟨H, h1, fun q a b d => (h2 q a b d).trans (k.1 q a d), fun j hj => (h3 j hj).trans (k.2 j hj), h4⟩
theorem q_RA.l {c : Option (Int32 × hP)} {m : Nat} {F : Nat → Nat → Int32} {L : Nat → Nat → Option Nat} {T : Nat → Nat} {f : Nat × Nat} (h : q_RO c m F L T f) : q_RA c m F L T (.inl f) :=
  ⟨fun f' hf => by cases hf; exact h, fun r hr => by cases hr⟩
section RP
variable {N m n : Nat} {B : Nat → Nat} {L : Nat → Nat → Option Nat} {T : Nat → Nat} {F : Nat → Nat → Int32} {p : Nat} {P : Nat → Nat} {f : Nat × Nat}
theorem M_cp_l : ∀ (k i : Nat) (G : Nat → Nat → Int32), (∀ p, p ≠ 53 → G p = F p) → (∀ j, j < i → G 53 j = F 54 j) → i ≤ 39 → 39 < i + k → ∃ G', f_X12_port_173 N k (Hp m G L T) (some 49) (nI i) = some (G' 53 4, Hp m G' L T) ∧ (∀ p, p ≠ 53 → G' p = F p) ∧ ∀ j, j < 39 → G' 53 j = F 54 j := by
  intro k
  induction k with
  | zero => intro i G _ _ h1 h2; omega
  | succ k ih =>
    intro i G e1 e2 h1 h2
    rw [f_X12_port_173]
    by_cases hi : i = 39
    · subst hi
      rw [if_pos (by decide)]
      refine ⟨G, ?_, e1, e2⟩
      simp only [gI_0, gI_2, gI_4, gI_9, gI_15, gI_21, gI_49, gP_0, gP_2, gP_4, gP_9, gP_15, gP_21, gP_49, gR_0, gR_2, gR_4, gR_9, gR_15, gR_21, gR_49, gL_53, gL_54, oPz_0, oPz_1, Option.bind_some, c10, c01, cm1, c00, if_true, if_false, ne_eq, not_true_eq_false, not_false_eq_true]
    · have hk' : ¬ (39 : Int32) ≤ nI i := nI_ge (a := i) (b := 39) (by omega) (by omega)
      rw [if_neg hk']
      obtain ⟨G', r1, r2⟩ := ih (i + 1) (up2 G 53 i (F 54 i)) (fun p hp => by rw [up2_ne hp]; exact e1 p hp) (fun j hj => by
        by_cases h : j = i
        · rw [h, up2_s]
        · rw [up2_o h]; exact e2 j (by omega)) (by omega) (by omega)
      refine ⟨G', ?_, r2⟩
      have e5 : G 54 i = F 54 i := by rw [e1 54 (by decide)]
      simp only [(gN_54 (show i < 39 by omega)).1, e5, (gN_53 (show i < 39 by omega)).2, nI_1, gI_0, gI_2, gI_4, gI_9, gI_15, gI_21, gI_49, gP_0, gP_2, gP_4, gP_9, gP_15, gP_21, gP_49, gR_0, gR_2, gR_4, gR_9, gR_15, gR_21, gR_49, gL_53, gL_54, oPz_0, oPz_1, Option.bind_some, c10, c01, cm1, c00, if_true, if_false, ne_eq, not_true_eq_false, not_false_eq_true]
      exact r1
theorem M_148_y (hN : 5000 ≤ N) (h0 : F 49 15 = 0) (pf : q_PF F P) : q_RY (f_X12_port_148 N (Hp m F L T) (some 49)) m F L T P := by
  obtain ⟨G, g1, g2, g3⟩ := M_cp_l (N := N) (m := m) (L := L) (T := T) (F := F) N 0 F (fun _ _ => rfl) (fun j hj => by omega) (by omega) (by omega)
  have e0 : (0 : Int32) ≤ 0 := by decide
  rw [show nI 0 = 0 from rfl] at g1
  refine ⟨G, ?_, fun q a b c => g2 q b, fun k _ => by rw [g2 49 (by decide)], fun i hi => by rw [g3 i hi]; exact pf i hi⟩
  rw [← pf 4 (by decide), ← g3 4 (by decide)]
  simp only [f_X12_port_148, h0, e0, g1, gI_0, gI_2, gI_4, gI_9, gI_15, gI_21, gI_49, gP_0, gP_2, gP_4, gP_9, gP_15, gP_21, gP_49, gR_0, gR_2, gR_4, gR_9, gR_15, gR_21, gR_49, gL_53, gL_54, oPz_0, oPz_1, Option.bind_some, c10, c01, cm1, c00, if_true, if_false, ne_eq, not_true_eq_false, not_false_eq_true]
theorem M_110_e (hN : 5000 ≤ N) (rb : q_RB n B F) (rt : q_RT n B F p) (hp : p ≤ n) (h0 : F 49 15 = 0) (pf : q_PF F P) (h7 : ¬ q_isW B n p 7 = true) {M : Nat} (hM : 1 ≤ M) : q_RA (f_X12_port_110 N M (Hp m F L T) (some 49)) m F L T (q_end B n P p) := by
  obtain ⟨M, rfl⟩ : ∃ j, M = j + 1 := ⟨M - 1, by omega⟩
  have nm := M_name_y (N := N) (m := m) (L := L) (T := T) hN rb rt hp h0
  have cm : lg_cmp (lN (q_nl B n p)) 6578553 = 0 ↔ q_isW B n p 7 = true := q_cmp (i := 7) (by decide) hp
  have c1 : ¬ lg_cmp (lN (q_nl B n p)) 6578553 = 0 := fun q => h7 (cm.mp q)
  have k4 : q_K B n p ≤ 4 := q_K_le
  unfold q_end
  by_cases hk : q_K B n p = 0
  · rw [if_pos hk]
    have t12 : F 49 12 = 1 := by rw [rt.2.1, hk]; rfl
    have e : f_X12_port_110 N (M + 1) (Hp m F L T) (some 49) = f_X12_port_148 N (Hp m F L T) (some 49) := by
      rw [f_X12_port_110]
      simp only [nm, c1, h0, t12, gI_0, gI_2, gI_4, gI_9, gI_15, gI_21, gI_49, gP_0, gP_2, gP_4, gP_9, gP_15, gP_21, gP_49, gR_0, gR_2, gR_4, gR_9, gR_15, gR_21, gR_49, gL_53, gL_54, oPz_0, oPz_1, Option.bind_some, c10, c01, cm1, c00, if_true, if_false, ne_eq, not_true_eq_false, not_false_eq_true]
    rw [e]
    exact ⟨fun f hf => (by cases hf), fun r hr => by cases hr; exact M_148_y hN h0 pf⟩
  · rw [if_neg hk]
    have t12 : ¬ F 49 12 = 1 := by
      rw [rt.2.1]
      unfold q_rk
      split
      · decide
      · exact fun q => hk (by have := (nI_eq (b := 1) (by omega) (by omega)).mp q; omega)
    obtain ⟨G, g1, g2, g3, -⟩ := M_bad (N := N) (m := m) (L := L) (T := T) (k := 1) (by decide) (by decide) rb rt hp h0
    rw [show nI 1 = 1 from rfl] at g1
    have e : f_X12_port_110 N (M + 1) (Hp m F L T) (some 49) = f_X12_port_148 N (Hp m G L T) (some 49) := by
      rw [f_X12_port_110]
      simp only [nm, c1, h0, t12, g1, gI_0, gI_2, gI_4, gI_9, gI_15, gI_21, gI_49, gP_0, gP_2, gP_4, gP_9, gP_15, gP_21, gP_49, gR_0, gR_2, gR_4, gR_9, gR_15, gR_21, gR_49, gL_53, gL_54, oPz_0, oPz_1, Option.bind_some, c10, c01, cm1, c00, if_true, if_false, ne_eq, not_true_eq_false, not_false_eq_true]
    rw [e]
    exact q_RA.l ((M_148_f g2).mono g3)
theorem M_dy4 (rb : q_RB n B F) (rt : q_RT n B F p) (hp : p ≤ n) (h0 : F 49 15 = 0) (pf : q_PF F P) (h4 : P 4 = 12) : ∃ G, f_X12_readDay N (Hp m F L T) (some 49) = some ((), Hp m G L T) ∧ q_RF n B G (3, q_S B n p) ∧ q_R3 F G := by
  have e4 : F 54 4 = 12 := by rw [pf 4 (by decide), h4]; rfl
  obtain ⟨G, g1, g2, g3, -⟩ := M_bad (N := N) (m := m) (L := L) (T := T) (k := 3) (by decide) (by decide) rb rt hp h0
  rw [show nI 3 = 3 from rfl] at g1
  refine ⟨G, ?_, g2, g3⟩
  simp only [f_X12_readDay, f_X12_readDay_0, f_X12_readDay_59, f_X12_begins, f_X12_begins_0, f_X12_begins_15, e4, g1, M_must_f g2, M_num_f g2, M_end_f g2, g2.ne, gI_0, gI_2, gI_4, gI_9, gI_15, gI_21, gI_49, gP_0, gP_2, gP_4, gP_9, gP_15, gP_21, gP_49, gR_0, gR_2, gR_4, gR_9, gR_15, gR_21, gR_49, gL_53, gL_54, oPz_0, oPz_1, Option.bind_some, c10, c01, cm1, c00, if_true, if_false, ne_eq, not_true_eq_false, not_false_eq_true]
theorem M_dy (hN : 5000 ≤ N) (rb : q_RB n B F) (rt : q_RT n B F p) (hp : p ≤ n) (h0 : F 49 15 = 0) (pf : q_PF F P) (pw : q_W P) (h4 : P 4 < 12) : q_RU n B (f_X12_readDay N (Hp m F L T) (some 49)) m F L T (q_dy B n P (q_E B n p)) := by
  have w3 := pw.2.2.2.2.1
  have w5 := q_pw w3
  have e4 : F 54 4 = nI (P 4) := pf 4 (by decide)
  have e44 : ¬ nI (P 4) = 12 := fun q => by have := (nI_eq (b := 12) (by omega) (by omega)).mp q; omega
  obtain ⟨F1, a1, a2, a3⟩ := M_must_y (N := N) (m := m) (L := L) (T := T) hN rb rt hp h0
  have hp1 := (q_E_b (B := B) hp).2
  generalize q_E B n p = p1 at *
  have rb1 := rb.mv2 a3
  have s1 : F1 49 15 = 0 := by rw [a3.2 15 (by decide)]; exact h0
  have x3 : F1 54 3 = nI (P 3) := by rw [a3.1 54 (by decide)]; exact pf 3 (by decide)
  unfold q_dy
  cases h1 : q_nm B n 0 (2 ^ P 3 - 1) p1 with
  | inl k =>
    obtain ⟨v, G, g1, g2, g3⟩ := M_num_n (N := N) (m := m) (L := L) (T := T) hN rb1 a2 hp1 s1 (by decide) (by omega) h1
    rw [show nI 0 = 0 from rfl] at g1
    refine ⟨fun f hf => ?_, fun r hr => by cases hr⟩
    cases hf
    refine ⟨G, ?_, g2, a3.r3.trans g3⟩
    simp only [f_X12_readDay, f_X12_readDay_0, f_X12_readDay_59, f_X12_begins, f_X12_begins_0, f_X12_begins_15, e4, e44, a1, x3, all_e w3, g1, M_end_f g2, g2.ne, gI_0, gI_2, gI_4, gI_9, gI_15, gI_21, gI_49, gP_0, gP_2, gP_4, gP_9, gP_15, gP_21, gP_49, gR_0, gR_2, gR_4, gR_9, gR_15, gR_21, gR_49, gL_53, gL_54, oPz_0, oPz_1, Option.bind_some, c10, c01, cm1, c00, if_true, if_false, ne_eq, not_true_eq_false, not_false_eq_true]
  | inr s =>
    obtain ⟨F2, b1, b2, b3⟩ := M_num_y (N := N) (m := m) (L := L) (T := T) hN rb1 a2 hp1 s1 (by decide) (by omega) h1
    rw [show nI 0 = 0 from rfl] at b1
    obtain ⟨-, -, -, vs⟩ := q_nm_r h1
    have hp2 := (q_E_b (B := B) hp1).2
    generalize q_E B n p1 = p2 at *
    have rb2 := rb1.mv2 b3
    have s2 : F2 49 15 = 0 := by rw [b3.2 15 (by decide)]; exact s1
    have fr2 : q_R3 F F2 := (a3.trans b3).r3
    dsimp only
    by_cases h3 : q_K B n p2 = 3
    · rw [if_pos h3]
      obtain ⟨F3, d1, d2, d3⟩ := M_end_y (N := N) (m := m) (L := L) (T := T) hN rb2 b2 hp2 s2 h3
      have s3 : F3 49 15 = 0 := by rw [d3.2 15 (by decide)]; exact s2
      have k46 : F3 54 = F 54 := (d3.1 54 (by decide)).trans ((b3.1 54 (by decide)).trans (a3.1 54 (by decide)))
      have y4 : F3 54 4 = nI (P 4) := by rw [k46]; exact e4
      have i13 : (13 : Int32) + nI (P 4) = nI (13 + P 4) := by rw [show (13 : Int32) = nI 13 from rfl, nI_add]
      have x4 : up2 F3 54 (13 + P 4) (nI s) 54 4 = nI (P 4) := by rw [up2_o (by omega)]; exact y4
      generalize hG : up2 (up2 F3 54 (13 + P 4) (nI s)) 54 4 (nI (P 4 + 1)) = G
      have g41 : G 49 = F3 49 := by rw [← hG, up2_ne (by decide), up2_ne (by decide)]
      refine ⟨fun f hf => (by cases hf), fun r hr => ?_⟩
      cases hr
      refine ⟨G, ?_, ?_, d2.mv g41, by rw [g41]; exact s3, fun i hi => ?_, (q_E_b hp2).2, pw.addD h4 (by omega)⟩
      · simp only [f_X12_readDay, f_X12_readDay_0, f_X12_readDay_59, f_X12_begins, f_X12_begins_0, f_X12_begins_15, e4, e44, a1, x3, all_e w3, b1, d1, s3, y4, i13, (gN_54 (show 13 + P 4 < 39 by omega)).2, x4, nI_1, hG, gI_0, gI_2, gI_4, gI_9, gI_15, gI_21, gI_49, gP_0, gP_2, gP_4, gP_9, gP_15, gP_21, gP_49, gR_0, gR_2, gR_4, gR_9, gR_15, gR_21, gR_49, gL_53, gL_54, oPz_0, oPz_1, Option.bind_some, c10, c01, cm1, c00, if_true, if_false, ne_eq, not_true_eq_false, not_false_eq_true]
      · rw [← hG]; exact (fr2.trans d3.r3).trans (q_R3.fr.trans q_R3.fr)
      · dsimp only
        rw [← hG]
        by_cases j4 : i = 4
        · subst j4; rw [up2_s, q_aD4]
        · rw [up2_o j4]
          by_cases j5 : i = 13 + P 4
          · subst j5; rw [up2_s, q_aDs]
          · rw [up2_o j5, k46, q_aDn j4 j5]; exact pf i hi
    · rw [if_neg h3]
      obtain ⟨G, g1, g2, g3⟩ := M_end_n (N := N) (m := m) (L := L) (T := T) rb2 b2 hp2 s2 h3
      refine ⟨fun f hf => ?_, fun r hr => by cases hr⟩
      cases hf
      refine ⟨G, ?_, g2, fr2.trans g3⟩
      simp only [f_X12_readDay, f_X12_readDay_0, f_X12_readDay_59, f_X12_begins, f_X12_begins_0, f_X12_begins_15, e4, e44, a1, x3, all_e w3, b1, g1, g2.ne, gI_0, gI_2, gI_4, gI_9, gI_15, gI_21, gI_49, gP_0, gP_2, gP_4, gP_9, gP_15, gP_21, gP_49, gR_0, gR_2, gR_4, gR_9, gR_15, gR_21, gR_49, gL_53, gL_54, oPz_0, oPz_1, Option.bind_some, c10, c01, cm1, c00, if_true, if_false, ne_eq, not_true_eq_false, not_false_eq_true]
end RP
theorem M_dys {N n : Nat} {B : Nat → Nat} (hN : 5000 ≤ N) : ∀ (k M : Nat) (P : Nat → Nat) (p m : Nat) (F : Nat → Nat → Int32) (L : Nat → Nat → Option Nat) (T : Nat → Nat), q_RB n B F → q_RT n B F p → p ≤ n → F 49 15 = 0 → q_PF F P → q_W P → P 4 + k = 13 → k < M → q_RA (f_X12_port_110 N M (Hp m F L T) (some 49)) m F L T (q_then (q_dys B n k P p) (q_end B n)) := by
  intro k
  induction k with
  | zero => intro M P p m F L T rb rt hp h0 pf pw hk; have := pw.2.2.2.2.2.1; omega
  | succ k ih =>
    intro M P p m F L T rb rt hp h0 pf pw hk hM
    have w4 := pw.2.2.2.2.2.1
    rw [q_dys_e]
    by_cases h7 : q_isW B n p 7 = true
    · rw [if_pos h7]
      obtain ⟨M, rfl⟩ : ∃ j, M = j + 1 := ⟨M - 1, by omega⟩
      have nm := M_name_y (N := N) (m := m) (L := L) (T := T) hN rb rt hp h0
      have cm : lg_cmp (lN (q_nl B n p)) 6578553 = 0 ↔ q_isW B n p 7 = true := q_cmp (i := 7) (by decide) hp
      have c1 := cm.mpr h7
      have st : ∀ G, f_X12_readDay N (Hp m F L T) (some 49) = some ((), Hp m G L T) → f_X12_port_110 N (M + 1) (Hp m F L T) (some 49) = f_X12_port_110 N M (Hp m G L T) (some 49) := by
        intro G g1
        rw [f_X12_port_110]
        simp only [nm, c1, g1, gI_0, gI_2, gI_4, gI_9, gI_15, gI_21, gI_49, gP_0, gP_2, gP_4, gP_9, gP_15, gP_21, gP_49, gR_0, gR_2, gR_4, gR_9, gR_15, gR_21, gR_49, gL_53, gL_54, oPz_0, oPz_1, Option.bind_some, c10, c01, cm1, c00, if_true, if_false, ne_eq, not_true_eq_false, not_false_eq_true]
      by_cases h12 : P 4 = 12
      · rw [if_pos h12]
        obtain ⟨G, g1, g2, g3⟩ := M_dy4 (N := N) (m := m) (L := L) (T := T) rb rt hp h0 pf h12
        rw [st G g1]
        exact q_RA.l ((M_110_f hN g2 (by omega)).mono g3)
      · rw [if_neg h12]
        obtain ⟨r1, r2⟩ := M_dy (N := N) (m := m) (L := L) (T := T) hN rb rt hp h0 pf pw (by omega)
        cases hq : q_dy B n P (q_E B n p) with
        | inl f =>
          obtain ⟨G, g1, g2, g3⟩ := r1 f hq
          rw [st G g1]
          exact q_RA.l ((M_110_f hN g2 (by omega)).mono g3)
        | inr r =>
          obtain ⟨G, g1, g2, g3, g4, g5, g6, g7⟩ := r2 r hq
          have x4 := q_dy_4 hq
          rw [st G g1]
          exact (ih M r.1 r.2 m G L T (g2.rb rb) g3 g6 g4 g5 g7 (by omega) (by omega)).mono g2
    · rw [if_neg h7]
      exact M_110_e hN rb rt hp h0 pf h7 (by omega)
theorem M_ths {N n : Nat} {B : Nat → Nat} (hN : 5000 ≤ N) : ∀ (k M : Nat) (P : Nat → Nat) (p m : Nat) (F : Nat → Nat → Int32) (L : Nat → Nat → Option Nat) (T : Nat → Nat), q_RB n B F → q_RT n B F p → p ≤ n → F 49 15 = 0 → q_PF F P → q_W P → P 4 = 0 → P 3 + k = 5 → k < M → q_RA (f_X12_port_92 N M (Hp m F L T) (some 49)) m F L T (q_then (q_ths B n k P p) (q_rest2 B n)) := by
  intro k
  induction k with
  | zero => intro M P p m F L T rb rt hp h0 pf pw hd hk; have := pw.2.2.2.2.1; omega
  | succ k ih =>
    intro M P p m F L T rb rt hp h0 pf pw hd hk hM
    have w3 := pw.2.2.2.2.1
    obtain ⟨M, rfl⟩ : ∃ j, M = j + 1 := ⟨M - 1, by omega⟩
    have nm := M_name_y (N := N) (m := m) (L := L) (T := T) hN rb rt hp h0
    have cm : lg_cmp (lN (q_nl B n p)) 499967946343 = 0 ↔ q_isW B n p 1 = true := q_cmp (i := 1) (by decide) hp
    rw [q_ths_e]
    by_cases h7 : q_isW B n p 1 = true
    · rw [if_pos h7]
      have c1 := cm.mpr h7
      have st : ∀ G, f_X12_readThing N (Hp m F L T) (some 49) = some ((), Hp m G L T) → f_X12_port_92 N (M + 1) (Hp m F L T) (some 49) = f_X12_port_92 N M (Hp m G L T) (some 49) := by
        intro G g1
        rw [f_X12_port_92]
        simp only [nm, c1, g1, gI_0, gI_2, gI_4, gI_9, gI_15, gI_21, gI_49, gP_0, gP_2, gP_4, gP_9, gP_15, gP_21, gP_49, gR_0, gR_2, gR_4, gR_9, gR_15, gR_21, gR_49, gL_53, gL_54, oPz_0, oPz_1, Option.bind_some, c10, c01, cm1, c00, if_true, if_false, ne_eq, not_true_eq_false, not_false_eq_true]
      by_cases h12 : P 3 = 4
      · rw [if_pos h12]
        obtain ⟨G, g1, g2, g3⟩ := M_th4 (N := N) (m := m) (L := L) (T := T) hN rb rt hp h0 pf h12
        rw [st G g1]
        exact q_RA.l ((M_92_f hN g2 (by omega)).mono g3)
      · rw [if_neg h12]
        obtain ⟨r1, r2⟩ := M_th (N := N) (m := m) (L := L) (T := T) hN rb rt hp h0 pf pw (by omega) hd
        cases hq : q_th B n P (q_E B n p) with
        | inl f =>
          obtain ⟨G, g1, g2, g3⟩ := r1 f hq
          rw [st G g1]
          exact q_RA.l ((M_92_f hN g2 (by omega)).mono g3)
        | inr r =>
          obtain ⟨G, g1, g2, g3, g4, g5, g6, g7⟩ := r2 r hq
          obtain ⟨x3, x4⟩ := q_th_3 hd (by omega) hq
          rw [st G g1]
          exact (ih M r.1 r.2 m G L T (g2.rb rb) g3 g6 g4 g5 g7 x4 (by omega) (by omega)).mono g2
    · rw [if_neg h7]
      have c1 : ¬ lg_cmp (lN (q_nl B n p)) 499967946343 = 0 := fun q => h7 (cm.mp q)
      have e : f_X12_port_92 N (M + 1) (Hp m F L T) (some 49) = f_X12_port_110 N N (Hp m F L T) (some 49) := by
        rw [f_X12_port_92]
        simp only [nm, c1, gI_0, gI_2, gI_4, gI_9, gI_15, gI_21, gI_49, gP_0, gP_2, gP_4, gP_9, gP_15, gP_21, gP_49, gR_0, gR_2, gR_4, gR_9, gR_15, gR_21, gR_49, gL_53, gL_54, oPz_0, oPz_1, Option.bind_some, c10, c01, cm1, c00, if_true, if_false, ne_eq, not_true_eq_false, not_false_eq_true]
      rw [e]
      exact M_dys hN 13 N P p m F L T rb rt hp h0 pf pw (by omega) (by omega)
section RQ
variable {N m n : Nat} {B : Nat → Nat} {L : Nat → Nat → Option Nat} {T : Nat → Nat} {F : Nat → Nat → Int32}
theorem M_clr : ∀ (c M i : Nat) (G : Nat → Nat → Int32), (∀ p, p ≠ 54 → G p = F p) → (∀ j, j < i → G 54 j = 0) → i + c = 39 → c < M → ∃ G' M', f_X12_port_11 N M (Hp m G L T) (some 49) (nI i) = f_X12_port_11 N (M' + 1) (Hp m G' L T) (some 49) (nI 39) ∧ (∀ p, p ≠ 54 → G' p = F p) ∧ ∀ j, j < 39 → G' 54 j = 0 := by
  intro c
  induction c with
  | zero =>
    intro M i G e1 e2 h1 h2
    obtain ⟨M, rfl⟩ : ∃ j, M = j + 1 := ⟨M - 1, by omega⟩
    have hi : i = 39 := by omega
    subst hi
    exact ⟨G, M, rfl, e1, e2⟩
  | succ c ih =>
    intro M i G e1 e2 h1 h2
    obtain ⟨M, rfl⟩ : ∃ j, M = j + 1 := ⟨M - 1, by omega⟩
    have hk' : ¬ (39 : Int32) ≤ nI i := nI_ge (a := i) (b := 39) (by omega) (by omega)
    obtain ⟨G', M', r1, r2⟩ := ih M (i + 1) (up2 G 54 i 0) (fun p hp => by rw [up2_ne hp]; exact e1 p hp) (fun j hj => by
      by_cases h : j = i
      · rw [h, up2_s]
      · rw [up2_o h]; exact e2 j (by omega)) (by omega) (by omega)
    refine ⟨G', M', ?_, r2⟩
    rw [← r1]
    conv => lhs; rw [f_X12_port_11]
    rw [if_neg hk']
    simp only [(gN_54 (show i < 39 by omega)).2, nI_1, gI_0, gI_2, gI_4, gI_9, gI_15, gI_21, gI_49, gP_0, gP_2, gP_4, gP_9, gP_15, gP_21, gP_49, gR_0, gR_2, gR_4, gR_9, gR_15, gR_21, gR_49, gL_53, gL_54, oPz_0, oPz_1, Option.bind_some, c10, c01, cm1, c00, if_true, if_false, ne_eq, not_true_eq_false, not_false_eq_true]
/-- port of the reference -/
theorem M_port (hN : 5000 ≤ N) (hn : n ≤ 400) (h8 : F 49 8 = nI n) (hb : ∀ i, i < n → B i < 256 ∧ F 55 i = nI (B i)) :
    (∀ f, q_port B n = .inl f → ∃ G, f_X12_port N (Hp m F L T) (some 49) = some (-1000100 - nI f.2, Hp m G L T) ∧ (∀ q, q ≠ 49 → q ≠ 54 → G q = F q) ∧ (∀ k, (k = 1 ∨ 16 < k) → G 49 k = F 49 k) ∧ G 49 8 = 0 ∧ G 49 9 = nI f.1) ∧
    (∀ r, q_port B n = .inr r → ∃ G, f_X12_port N (Hp m F L T) (some 49) = some (nI (r.1 4), Hp m G L T) ∧ (∀ q, q ≠ 49 → q ≠ 53 → q ≠ 54 → G q = F q) ∧ (∀ k, (k = 1 ∨ k = 9 ∨ 16 < k) → G 49 k = F 49 k) ∧ G 49 8 = 0 ∧ ∀ i, i < 39 → G 53 i = nI (r.1 i)) := by
  have u8 : up2 F 49 0 0 49 8 = nI n := by simp (disch := omega) only [up2_ne, up2_o, up2_s]; exact h8
  generalize hF0 : up2 (up2 (up2 (up2 (up2 F 49 0 0) 49 10 (nI n)) 49 8 0) 49 11 0) 49 15 0 = F0
  have f0n : ∀ q, q ≠ 49 → F0 q = F q := fun q hq => by rw [← hF0, up2_ne hq, up2_ne hq, up2_ne hq, up2_ne hq, up2_ne hq]
  have f0k : ∀ k, k ≠ 0 → k ≠ 10 → k ≠ 8 → k ≠ 11 → k ≠ 15 → F0 49 k = F 49 k := fun k a b c d e => by rw [← hF0, up2_o e, up2_o d, up2_o c, up2_o b, up2_o a]
  have f08 : F0 49 8 = 0 := by rw [← hF0]; simp (disch := omega) only [up2_ne, up2_o, up2_s]
  have f010 : F0 49 10 = nI n := by rw [← hF0]; simp (disch := omega) only [up2_ne, up2_o, up2_s]
  have f011 : F0 49 11 = nI 0 := by rw [← hF0]; simp (disch := omega) only [up2_ne, up2_o, up2_s]; rfl
  have f015 : F0 49 15 = 0 := by rw [← hF0]; simp (disch := omega) only [up2_ne, up2_o, up2_s]
  have rb0 : q_RB n B F0 := ⟨hn, f010, fun i hi => by rw [f0n 55 (by decide)]; exact hb i hi⟩
  obtain ⟨F1, a1, a2, a3⟩ := M_nt (N := N) (m := m) (L := L) (T := T) (F := F0) (p := 0) hN rb0 f011 (Nat.zero_le _)
  obtain ⟨F2, M', c1, c2, c3⟩ := M_clr (N := N) (m := m) (L := L) (T := T) (F := F1) 39 N 0 F1 (fun _ _ => rfl) (fun j hj => by omega) (by omega) (by omega)
  have r12 : q_R3 F1 F2 := ⟨fun q _ b => c2 q b, fun k _ => by rw [c2 49 (by decide)]⟩
  have r02 : q_R3 F0 F2 := a3.r3.trans r12
  have rb2 := r02.rb rb0
  have rt2 : q_RT n B F2 0 := a2.mv (c2 49 (by decide))
  have s2 : F2 49 15 = 0 := by rw [c2 49 (by decide), a3.2 15 (by decide)]; exact f015
  have nm := M_name_y (N := N) (m := m) (L := L) (T := T) hN rb2 rt2 (Nat.zero_le _) s2
  have cm : lg_cmp (lN (q_nl B n 0)) 7102839 = 0 ↔ q_isW B n 0 0 = true := q_cmp (i := 0) (by decide) (Nat.zero_le _)
  have e39 : (39 : Int32) ≤ nI 39 := by decide
  have st : f_X12_port N (Hp m F L T) (some 49) = f_X12_port_47 N (Hp m F2 L T) (some 49) (some 49) (if q_isW B n 0 0 = true then 1 else 0) := by
    rw [show nI 0 = 0 from rfl] at c1
    have e1 : f_X12_port N (Hp m F L T) (some 49) = f_X12_port_11 N N (Hp m F1 L T) (some 49) 0 := by
      simp only [f_X12_port, f_X12_port_0, f_X12_begin, f_X12_begin_0, u8, hF0, a1, gI_0, gI_2, gI_4, gI_9, gI_15, gI_21, gI_49, gP_0, gP_2, gP_4, gP_9, gP_15, gP_21, gP_49, gR_0, gR_2, gR_4, gR_9, gR_15, gR_21, gR_49, gL_53, gL_54, oPz_0, oPz_1, Option.bind_some, c10, c01, cm1, c00, if_true, if_false, ne_eq, not_true_eq_false, not_false_eq_true]
    rw [e1, c1, f_X12_port_11, if_pos e39]
    by_cases hw : q_isW B n 0 0 = true
    · rw [if_pos hw]
      simp only [nm, cm.mpr hw, gI_0, gI_2, gI_4, gI_9, gI_15, gI_21, gI_49, gP_0, gP_2, gP_4, gP_9, gP_15, gP_21, gP_49, gR_0, gR_2, gR_4, gR_9, gR_15, gR_21, gR_49, gL_53, gL_54, oPz_0, oPz_1, Option.bind_some, c10, c01, cm1, c00, if_true, if_false, ne_eq, not_true_eq_false, not_false_eq_true]
    · have hc : ¬ lg_cmp (lN (q_nl B n 0)) 7102839 = 0 := fun q => hw (cm.mp q)
      rw [if_neg hw]
      simp only [nm, hc, gI_0, gI_2, gI_4, gI_9, gI_15, gI_21, gI_49, gP_0, gP_2, gP_4, gP_9, gP_15, gP_21, gP_49, gR_0, gR_2, gR_4, gR_9, gR_15, gR_21, gR_49, gL_53, gL_54, oPz_0, oPz_1, Option.bind_some, c10, c01, cm1, c00, if_true, if_false, ne_eq, not_true_eq_false, not_false_eq_true]
  obtain ⟨l1, l2⟩ := M_law (N := N) (m := m) (L := L) (T := T) hN rb2 rt2 (Nat.zero_le _) s2 c3
  rw [← st] at l1 l2
  have key : q_RA (f_X12_port N (Hp m F L T) (some 49)) m F0 L T (q_port B n) := by
    rw [q_port_e]
    cases hl : q_law B n 0 with
    | inl f => exact q_RA.l ((l1 f hl).mono r02)
    | inr r =>
      obtain ⟨G, g1, g2, g3, g4, g5, g6, g7⟩ := l2 r hl
      obtain ⟨x3, x4⟩ := q_law_3 hl
      rw [g1]
      exact (M_ths hN 5 N r.1 r.2 m G L T (g2.rb rb2) g3 g6 g4 g5 g7 x4 (by omega) (by omega)).mono (r02.trans g2)
  refine ⟨fun f hf => ?_, fun r hr => ?_⟩
  · obtain ⟨G, g1, g2, g3⟩ := key.1 f hf
    exact ⟨G, g1, fun q a b => (g2.1 q a b).trans (f0n q a), fun k hk => (g2.2 k (by omega)).trans (f0k k (by omega) (by omega) (by omega) (by omega) (by omega)), (g2.2 8 (by omega)).trans f08, g3⟩
  · obtain ⟨G, g1, g2, g3, g4⟩ := key.2 r hr
    exact ⟨G, g1, fun q a b c => (g2 q a b c).trans (f0n q a), fun k hk => (g3 k (by omega)).trans (f0k k (by omega) (by omega) (by omega) (by omega) (by omega)), (g3 8 (by omega)).trans f08, g4⟩
end RQ
