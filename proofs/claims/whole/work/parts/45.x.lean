-- SOON: the reference
/-- the reference's left worlds before x, in their order -/
def LSt (G : Nat → Nat → Int32) (Q : Nat → Prop) (x c : Nat) : Prop := ∃ l : Nat → Nat, (∀ j, j < c → G 57 j = nI (l j) ∧ l j < x ∧ Q (l j)) ∧ (∀ i j, i < j → j < c → l i < l j) ∧ ∀ y, y < x → Q y → ∃ j, j < c ∧ l j = y
section MS1
variable {N m : Nat} {L : Nat → Nat → Option Nat} {T : Nat → Nat} {P S : Nat → Nat}
theorem M_same_l {G : Nat → Nat → Int32} {r17 : hP → Option Nat → Int32 → Option (Unit × hP)} {x D : Nat} (hN : 5000 ≤ N) (pv : PV P) (h2 : P 2 ≠ 0) (mv : MV G P S D) (mw : MW G P (wldN x) (P 0) (P 1) 1000) (hD : P 4 ≤ D) (g4 : G 53 4 = nI (P 4)) (gt : ∀ d, d < P 4 → G 58 d = nI (shT P S d)) (ft : Bool) (hft : ft = true ↔ fitT P S (P 4) x) : ∀ (n i : Nat) (b : Bool), i ≤ P 4 → P 4 < i + n → (b = true ↔ fitT P S i x) → f_X12_layLeft_34 N r17 n (Hp m G L T) (some 49) (nI x) (bB b) (nI i) = f_X12_layLeft_74 N r17 (Hp m G L T) (some 49) (nI x) (bB ft) := by
  obtain ⟨v0, v1, v2, v3, v4, v5, v6, v7, v8⟩ := pv
  intro n
  induction n with
  | zero => intro i b h1 h2; omega
  | succ n ih =>
    intro i b h1 h3 hb
    rw [f_X12_layLeft_34]
    simp only [g4, gI_0, gI_2, gI_4, gI_9, gI_15, gI_21, gI_49, gP_0, gP_2, gP_4, gP_9, gP_15, gP_21, gP_49, gR_0, gR_2, gR_4, gR_9, gR_15, gR_21, gR_49, gL_53, gL_54, oPz_0, oPz_1, Option.bind_some, c10, c01, cm1, c00, if_true, if_false, ne_eq, not_true_eq_false, not_false_eq_true]
    by_cases hi : i = P 4
    · rw [if_pos (by rw [hi]; exact Int32.le_refl _)]
      have : b = ft := by
        rw [hi] at hb
        cases b <;> cases ft <;> simp_all
      rw [this]
    · rw [if_neg (nI_ge (show i < P 4 by omega) (by omega))]
      cases b with
      | false =>
        rw [if_pos bB_f]
        have : ft = false := by
          cases ft with
          | false => rfl
          | true =>
            have h4 := hft.mp rfl
            exact absurd (hb.mpr (fun d hd => h4 d (by omega))) (by decide)
        rw [this]
      | true =>
        rw [if_neg (by decide)]
        have es := M_shows (N := N) (m := m) (L := L) (T := T) hN mv h2 mw (show i < D by omega)
        have s1 : shN P S (wldN x) (P 0) (P 1) 1000 i ≤ 1124 := shN_le v3 (fun t _ => by have := wld_lt x t; omega) v0 (by omega)
        have s2 : shT P S i ≤ 1124 := shN_le v3 (fun t ht => (v7 t ht).2.2) v0 (by omega)
        simp only [es, (gN_58 (show i < 26 by omega)).1, gt i (by omega), nI_eq (show shN P S (wldN x) (P 0) (P 1) 1000 i < 2 ^ 31 by omega) (show shT P S i < 2 ^ 31 by omega), f_X12_layLeft_67, nI_1, gI_0, gI_2, gI_4, gI_9, gI_15, gI_21, gI_49, gP_0, gP_2, gP_4, gP_9, gP_15, gP_21, gP_49, gR_0, gR_2, gR_4, gR_9, gR_15, gR_21, gR_49, gL_53, gL_54, oPz_0, oPz_1, Option.bind_some, c10, c01, cm1, c00, if_true, if_false, ne_eq, not_true_eq_false, not_false_eq_true]
        by_cases hs : shN P S (wldN x) (P 0) (P 1) 1000 i = shT P S i
        · rw [if_pos hs]
          exact ih (i + 1) true (by omega) (by omega) ⟨fun _ => fitT_s.mpr ⟨hb.mp rfl, hs⟩, fun _ => rfl⟩
        · rw [if_neg hs]
          exact ih (i + 1) false (by omega) (by omega) ⟨fun q => absurd q (by decide), fun q => absurd (fitT_s.mp q).2 hs⟩
theorem M_left_l {G0 : Nat → Nat → Int32} (hN : 5000 ≤ N) (pv : PV P) (h2 : P 2 ≠ 0) (mv : MV G0 P S (P 4)) (mw : MW G0 P (truN P) (P 0) (P 1) 1000) (g4 : G0 53 4 = nI (P 4)) (gt : ∀ d, d < P 4 → G0 58 d = nI (shT P S d)) : ∀ (n x c : Nat) (G : Nat → Nat → Int32), (∀ p, p ≠ 56 → p ≠ 57 → p ≠ 49 → G p = G0 p) → (∀ k, k ≠ 22 → G 49 k = G0 49 k) → G 49 22 = nI c → c ≤ x → LSt G (fitT P S (P 4)) x c → x ≤ 8 ^ P 3 → 8 ^ P 3 < x + n → ∃ G' c', f_X12_layLeft_17 N n (Hp m G L T) (some 49) (nI x) = some ((), Hp m G' L T) ∧ (∀ p, p ≠ 56 → p ≠ 57 → p ≠ 49 → G' p = G0 p) ∧ (∀ k, k ≠ 22 → G' 49 k = G0 49 k) ∧ G' 49 22 = nI c' ∧ c' ≤ 8 ^ P 3 ∧ LSt G' (fitT P S (P 4)) (8 ^ P 3) c' := by
  have v3 : P 3 ≤ 4 := pv.2.2.2.1
  have hp := p8_le v3
  have v4 : P 4 ≤ 24 := pv.2.2.2.2.1
  intro n
  induction n with
  | zero => intro x c G _ _ _ _ _ h1 h2; omega
  | succ n ih =>
    intro x c G e1 e2 e3 hc ls h3 h4
    rw [f_X12_layLeft_17]
    have g3 : G 53 3 = nI (P 3) := by rw [e1 53 (by decide) (by decide) (by decide)]; exact mv.2.2.2.2.1
    simp only [M_worlds v3 g3, gI_0, gI_2, gI_4, gI_9, gI_15, gI_21, gI_49, gP_0, gP_2, gP_4, gP_9, gP_15, gP_21, gP_49, gR_0, gR_2, gR_4, gR_9, gR_15, gR_21, gR_49, gL_53, gL_54, oPz_0, oPz_1, Option.bind_some, c10, c01, cm1, c00, if_true, if_false, ne_eq, not_true_eq_false, not_false_eq_true]
    by_cases hx : x = 8 ^ P 3
    · rw [if_pos (by rw [hx]; exact Int32.le_refl _)]
      rw [hx] at ls hc
      exact ⟨G, c, rfl, e1, e2, e3, hc, ls⟩
    · rw [if_neg (nI_ge (show x < 8 ^ P 3 by omega) (by omega))]
      have mvG : MV G P S (P 4) := mv.same (e1 53 (by decide) (by decide) (by decide))
      have mw0 : MW (up G 56 (G0 56)) P (truN P) (P 0) (P 1) 1000 := by
        obtain ⟨w1, w2⟩ := mw
        refine ⟨fun t ht => by rw [up_s]; exact w1 t ht, ?_⟩
        rw [up_n2 (by decide), e2 18 (by decide), e2 19 (by decide), e2 20 (by decide)]
        exact w2
      obtain ⟨G1, a1, a2, a3⟩ := M_layW (N := N) (m := m) (L := L) (T := T) (G0 := up G 56 (G0 56)) (G := G) hN (mvG.same (up_n2 (by decide))) mw0 (show x < 2 ^ 31 by omega) (fun p hp => (up_n2 hp).symm)
      have a2' : ∀ p, p ≠ 56 → G1 p = G p := fun p hp => by rw [a2 p hp, up_n2 hp]
      have mv1 : MV G1 P S (P 4) := mvG.same (a2' 53 (by decide))
      have ht1 : ∀ d, d < P 4 → G1 58 d = nI (shT P S d) := fun d hd => by rw [a2' 58 (by decide), e1 58 (by decide) (by decide) (by decide)]; exact gt d hd
      have g41 : G1 53 4 = nI (P 4) := by rw [a2' 53 (by decide), e1 53 (by decide) (by decide) (by decide)]; exact g4
      obtain ⟨l, l1, l2, l3⟩ := ls
      by_cases hf : fitT P S (P 4) x
      · have inn := M_same_l (N := N) (m := m) (L := L) (T := T) (r17 := f_X12_layLeft_17 N n) hN pv h2 mv1 a3 (Nat.le_refl _) g41 ht1 true ⟨fun _ => hf, fun _ => rfl⟩ N 0 true (by omega) (by omega) ⟨fun _ d hd => by omega, fun _ => rfl⟩
        have inn' : f_X12_layLeft_34 N (f_X12_layLeft_17 N n) N (Hp m G1 L T) (some 49) (nI x) 1 0 = f_X12_layLeft_74 N (f_X12_layLeft_17 N n) (Hp m G1 L T) (some 49) (nI x) 1 := inn
        have k22 : G1 49 22 = nI c := by rw [a2' 49 (by decide)]; exact e3
        generalize hG2 : up2 (up2 G1 57 c (nI x)) 49 22 (nI (c + 1)) = G2
        have q1 : ∀ p, p ≠ 56 → p ≠ 57 → p ≠ 49 → G2 p = G0 p := fun p p1 p2 p3 => by rw [← hG2, up2_ne p3, up2_ne p2, a2' p p1, e1 p p1 p2 p3]
        have q2 : ∀ k, k ≠ 22 → G2 49 k = G0 49 k := fun k hk => by rw [← hG2, up2_o hk, up2_ne (by decide), a2' 49 (by decide), e2 k hk]
        have q3 : G2 49 22 = nI (c + 1) := by rw [← hG2, up2_s]
        have q49 : ∀ j, j ≠ c → G2 57 j = G 57 j := fun j hj => by rw [← hG2, up2_ne (by decide), up2_o hj, a2' 57 (by decide)]
        have q49c : G2 57 c = nI x := by rw [← hG2, up2_ne (by decide), up2_s]
        obtain ⟨G', c', r1, r2⟩ := ih (x + 1) (c + 1) G2 q1 q2 q3 (by omega) ⟨fun j => if j = c then x else l j, fun j hj => by
            dsimp only
            by_cases w : j = c
            · rw [if_pos w, w, q49c]; exact ⟨rfl, by omega, hf⟩
            · rw [if_neg w, q49 j w]
              obtain ⟨b1, b2, b3⟩ := l1 j (by omega)
              exact ⟨b1, by omega, b3⟩, fun i j hij hj => by
            dsimp only
            rw [if_neg (show ¬ i = c by omega)]
            by_cases w : j = c
            · rw [if_pos w]; exact (l1 i (by omega)).2.1
            · rw [if_neg w]; exact l2 i j hij (by omega), fun y hy hfy => by
            by_cases w : y = x
            · exact ⟨c, by omega, by dsimp only; rw [if_pos rfl, w]⟩
            · obtain ⟨j, hj, hjy⟩ := l3 y (by omega) hfy
              exact ⟨j, by omega, by dsimp only; rw [if_neg (by omega), hjy]⟩⟩ (by omega) (by omega)
        refine ⟨G', c', ?_, r2⟩
        have k22' : up2 G1 57 c (nI x) 49 22 = nI c := by rw [up2_ne (by decide)]; exact k22
        simp only [a1, inn', f_X12_layLeft_74, f_X12_layLeft_98, k22, (gN_57 (show c < 4096 by omega)).2, k22', nI_1, hG2, gI_0, gI_2, gI_4, gI_9, gI_15, gI_21, gI_49, gP_0, gP_2, gP_4, gP_9, gP_15, gP_21, gP_49, gR_0, gR_2, gR_4, gR_9, gR_15, gR_21, gR_49, gL_53, gL_54, oPz_0, oPz_1, Option.bind_some, c10, c01, cm1, c00, if_true, if_false, ne_eq, not_true_eq_false, not_false_eq_true]
        exact r1
      · have inn := M_same_l (N := N) (m := m) (L := L) (T := T) (r17 := f_X12_layLeft_17 N n) hN pv h2 mv1 a3 (Nat.le_refl _) g41 ht1 false ⟨fun q => absurd q (by decide), fun q => absurd q hf⟩ N 0 true (by omega) (by omega) ⟨fun _ d hd => by omega, fun _ => rfl⟩
        have inn' : f_X12_layLeft_34 N (f_X12_layLeft_17 N n) N (Hp m G1 L T) (some 49) (nI x) 1 0 = f_X12_layLeft_74 N (f_X12_layLeft_17 N n) (Hp m G1 L T) (some 49) (nI x) 0 := inn
        obtain ⟨G', c', r1, r2⟩ := ih (x + 1) c G1 (fun p p1 p2 p3 => by rw [a2' p p1, e1 p p1 p2 p3]) (fun k hk => by rw [a2' 49 (by decide), e2 k hk]) (by rw [a2' 49 (by decide)]; exact e3) (by omega) ⟨l, fun j hj => by
            rw [a2' 57 (by decide)]
            obtain ⟨b1, b2, b3⟩ := l1 j hj
            exact ⟨b1, by omega, b3⟩, l2, fun y hy hfy => by
            by_cases w : y = x
            · rw [w] at hfy; exact absurd hfy hf
            · exact l3 y (by omega) hfy⟩ (by omega) (by omega)
        refine ⟨G', c', ?_, r2⟩
        simp only [a1, inn', f_X12_layLeft_74, f_X12_layLeft_98, nI_1, gI_0, gI_2, gI_4, gI_9, gI_15, gI_21, gI_49, gP_0, gP_2, gP_4, gP_9, gP_15, gP_21, gP_49, gR_0, gR_2, gR_4, gR_9, gR_15, gR_21, gR_49, gL_53, gL_54, oPz_0, oPz_1, Option.bind_some, c10, c01, cm1, c00, if_true, if_false, ne_eq, not_true_eq_false, not_false_eq_true]
        exact r1
def gB (P S : Nat → Nat) (k x : Nat) : Bool := decide (∀ d, d < k → shW P S x (P 4 + d) = shT P S (P 4 + d))
theorem M_one_in {G : Nat → Nat → Int32} {r19 : hP → Option Nat → Int32 → Int32 → Int32 → Int32 → Option (Int32 × hP)} {x k f c : Nat} (hN : 5000 ≤ N) (pv : PV P) (h2 : P 2 ≠ 0) (hk : k ≤ 2) (mv : MV G P S (P 4 + k)) (mw : MW G P (wldN x) (P 0) (P 1) 1000) (gt : ∀ d, d < P 4 + k → G 58 d = nI (shT P S d)) : ∀ (n i : Nat) (b : Bool), i ≤ k → k < i + n → (b = true ↔ ∀ d, d < i → shW P S x (P 4 + d) = shT P S (P 4 + d)) → f_X12_isOne_50 N r19 n (Hp m G L T) (some 49) (nI k) (nI (P 4)) (nI f) (nI c) (bB b) (nI (P 4 + i)) = r19 (Hp m G L T) (some 49) (nI k) (nI (P 4)) (nI (f + if gB P S k x = true then 1 else 0)) (nI (c + 1)) := by
  obtain ⟨v0, v1, v2, v3, v4, v5, v6, v7, v8⟩ := pv
  have fin : ∀ b : Bool, b = gB P S k x → f_X12_isOne_92 N r19 (Hp m G L T) (some 49) (nI k) (nI (P 4)) (nI f) (nI c) (bB b) = r19 (Hp m G L T) (some 49) (nI k) (nI (P 4)) (nI (f + if gB P S k x = true then 1 else 0)) (nI (c + 1)) := by
    intro b hb
    rw [← hb]
    cases b
    · simp only [f_X12_isOne_92, f_X12_isOne_103, bB_f, if_true, Int32.add_zero, nI_1]
      rfl
    · simp only [f_X12_isOne_92, f_X12_isOne_103, bB_t, c10, if_false, nI_1, if_true]
  intro n
  induction n with
  | zero => intro i b h1 h2; omega
  | succ n ih =>
    intro i b h1 h3 hb
    rw [f_X12_isOne_50, nI_add]
    by_cases hi : i = k
    · rw [if_pos (by rw [hi]; exact Int32.le_refl _)]
      refine fin b ?_
      rw [hi] at hb
      unfold gB
      cases b
      · exact (decide_eq_false (fun q => absurd (hb.mpr q) (by decide))).symm
      · exact (decide_eq_true (hb.mp rfl)).symm
    · rw [if_neg (nI_ge (show P 4 + i < P 4 + k by omega) (by omega))]
      cases b with
      | false =>
        rw [if_pos bB_f]
        refine fin false ?_
        exact (decide_eq_false (fun q => absurd (hb.mpr (fun d hd => q d (by omega))) (by decide))).symm
      | true =>
        rw [if_neg (by decide)]
        have es := M_shows (N := N) (m := m) (L := L) (T := T) hN mv h2 mw (show P 4 + i < P 4 + k by omega)
        have s1 : shN P S (wldN x) (P 0) (P 1) 1000 (P 4 + i) ≤ 1124 := shN_le v3 (fun t _ => by have := wld_lt x t; omega) v0 (by omega)
        have s2 : shT P S (P 4 + i) ≤ 1124 := shN_le v3 (fun t ht => (v7 t ht).2.2) v0 (by omega)
        simp only [es, (gN_58 (show P 4 + i < 26 by omega)).1, gt (P 4 + i) (by omega), nI_eq (show shN P S (wldN x) (P 0) (P 1) 1000 (P 4 + i) < 2 ^ 31 by omega) (show shT P S (P 4 + i) < 2 ^ 31 by omega), f_X12_isOne_84, nI_1, gI_0, gI_2, gI_4, gI_9, gI_15, gI_21, gI_49, gP_0, gP_2, gP_4, gP_9, gP_15, gP_21, gP_49, gR_0, gR_2, gR_4, gR_9, gR_15, gR_21, gR_49, gL_53, gL_54, oPz_0, oPz_1, Option.bind_some, c10, c01, cm1, c00, if_true, if_false, ne_eq, not_true_eq_false, not_false_eq_true]
        by_cases hs : shN P S (wldN x) (P 0) (P 1) 1000 (P 4 + i) = shT P S (P 4 + i)
        · rw [if_pos hs]
          exact ih (i + 1) true (by omega) (by omega) ⟨fun _ d hd => by
            by_cases w : d = i
            · rw [w]; exact hs
            · exact hb.mp rfl d (by omega), fun _ => rfl⟩
        · rw [if_neg hs]
          exact ih (i + 1) false (by omega) (by omega) ⟨fun q => absurd q (by decide), fun q => absurd (q i (by omega)) hs⟩
theorem M_one_l {G0 : Nat → Nat → Int32} {k c : Nat} {l : Nat → Nat} (hN : 5000 ≤ N) (pv : PV P) (h2 : P 2 ≠ 0) (hk : k ≤ 2) (hc : c ≤ 4096) (mv : MV G0 P S (P 4 + k)) (mw : MW G0 P (truN P) (P 0) (P 1) 1000) (gt : ∀ d, d < P 4 + k → G0 58 d = nI (shT P S d)) (g22 : G0 49 22 = nI c) (hl : ∀ j, j < c → G0 57 j = nI (l j) ∧ l j < 4096) : ∀ (n i : Nat) (G : Nat → Nat → Int32), (∀ p, p ≠ 56 → G p = G0 p) → i ≤ c → c < i + n → ∃ G', f_X12_isOne_19 N n (Hp m G L T) (some 49) (nI k) (nI (P 4)) (nI (fa_cnt (fun j => gB P S k (l j)) i)) (nI i) = some (bB (decide (fa_cnt (fun j => gB P S k (l j)) c = 1)), Hp m G' L T) ∧ ∀ p, p ≠ 56 → G' p = G0 p := by
  intro n
  induction n with
  | zero => intro i G _ h1 h2; omega
  | succ n ih =>
    intro i G e h1 h3
    have hci := fa_cnt_le (fun j => gB P S k (l j)) i
    have hmo := cnt_mono (p := fun j => gB P S k (l j)) h1
    rw [f_X12_isOne_19]
    have k22 : G 49 22 = nI c := by rw [e 49 (by decide)]; exact g22
    simp only [k22, gI_0, gI_2, gI_4, gI_9, gI_15, gI_21, gI_49, gP_0, gP_2, gP_4, gP_9, gP_15, gP_21, gP_49, gR_0, gR_2, gR_4, gR_9, gR_15, gR_21, gR_49, gL_53, gL_54, oPz_0, oPz_1, Option.bind_some, c10, c01, cm1, c00, if_true, if_false, ne_eq, not_true_eq_false, not_false_eq_true]
    have fin : ∀ f, f < 5000 → f_X12_isOne_111 N (Hp m G L T) (nI f) = some (bB (decide (f = 1)), Hp m G L T) := by
      intro f hf
      simp only [f_X12_isOne_111, f_X12_isOne_121]
      by_cases w : f = 1
      · rw [if_pos (show nI f = 1 by rw [w]; rfl), if_pos (Or.inr trivial), decide_eq_true w]; rfl
      · rw [if_neg (show ¬ nI f = 1 from fun q => w ((nI_eq (b := 1) (by omega) (by omega)).mp q)), if_pos (Or.inl trivial), decide_eq_false w]; rfl
    by_cases hi : i = c
    · rw [if_pos (by rw [hi]; exact Int32.le_refl _), fin _ (by omega), hi]
      exact ⟨G, rfl, e⟩
    · rw [if_neg (nI_ge (show i < c by omega) (by omega))]
      by_cases h22 : 2 ≤ fa_cnt (fun j => gB P S k (l j)) i
      · have hx2 : (2 : Int32) ≤ nI (fa_cnt (fun j => gB P S k (l j)) i) := nI_le (a := 2) h22 (by omega)
        rw [if_pos hx2, fin _ (by omega), decide_eq_false (show ¬ fa_cnt (fun j => gB P S k (l j)) i = 1 by omega), decide_eq_false (show ¬ fa_cnt (fun j => gB P S k (l j)) c = 1 by omega)]
        exact ⟨G, rfl, e⟩
      · have hx2 : ¬ (2 : Int32) ≤ nI (fa_cnt (fun j => gB P S k (l j)) i) := nI_ge (b := 2) (by omega) (by omega)
        rw [if_neg hx2]
        obtain ⟨b1, b2⟩ := hl i (by omega)
        have e49 : G 57 i = nI (l i) := by rw [e 57 (by decide)]; exact b1
        obtain ⟨G1, a1, a2, a3⟩ := M_layW (N := N) (m := m) (L := L) (T := T) hN mv mw (show l i < 2 ^ 31 by omega) e
        obtain ⟨G', r1, r2⟩ := ih (i + 1) G1 a2 (by omega) (by omega)
        refine ⟨G', ?_, r2⟩
        have inn := M_one_in (N := N) (m := m) (L := L) (T := T) (r19 := f_X12_isOne_19 N n) (f := fa_cnt (fun j => gB P S k (l j)) i) (c := i) hN pv h2 hk (mv.same (a2 53 (by decide))) a3 (fun d hd => by rw [a2 58 (by decide)]; exact gt d hd) N 0 true (by omega) (by omega) ⟨fun _ d hd => by omega, fun _ => rfl⟩
        have inn' : f_X12_isOne_50 N (f_X12_isOne_19 N n) N (Hp m G1 L T) (some 49) (nI k) (nI (P 4)) (nI (fa_cnt (fun j => gB P S k (l j)) i)) (nI i) 1 (nI (P 4)) = f_X12_isOne_19 N n (Hp m G1 L T) (some 49) (nI k) (nI (P 4)) (nI (fa_cnt (fun j => gB P S k (l j)) i + if gB P S k (l i) = true then 1 else 0)) (nI (i + 1)) := inn
        simp only [(gN_57 (show i < 4096 by omega)).1, e49, a1, inn', gI_0, gI_2, gI_4, gI_9, gI_15, gI_21, gI_49, gP_0, gP_2, gP_4, gP_9, gP_15, gP_21, gP_49, gR_0, gR_2, gR_4, gR_9, gR_15, gR_21, gR_49, gL_53, gL_54, oPz_0, oPz_1, Option.bind_some, c10, c01, cm1, c00, if_true, if_false, ne_eq, not_true_eq_false, not_false_eq_true]
        exact r1
theorem one_cnt {G : Nat → Nat → Int32} {S' : Nat → Nat} {k c : Nat} {l : Nat → Nat} (pv : PV P) (hS : ∀ e, e < P 4 → S e = S' e) (l1 : ∀ j, j < c → G 57 j = nI (l j) ∧ l j < 8 ^ P 3 ∧ fitT P S (P 4) (l j)) (l2 : ∀ i j, i < j → j < c → l i < l j) (l3 : ∀ y, y < 8 ^ P 3 → fitT P S (P 4) y → ∃ j, j < c ∧ l j = y) : fa_cnt (fun j => gB P S' k (l j)) c = 1 ↔ oneT P S' (P 4 + k) := by
  have key : ∀ x, (fitT P S (P 4) x ∧ gB P S' k x = true) ↔ fitT P S' (P 4 + k) x := by
    intro x
    unfold gB
    rw [decide_eq_true_iff, fitT_c hS]
    constructor
    · rintro ⟨h1, h2⟩ d hd
      by_cases w : d < P 4
      · exact h1 d w
      · have := h2 (d - P 4) (by omega)
        rw [show P 4 + (d - P 4) = d by omega] at this
        exact this
    · intro h
      exact ⟨fun d hd => h d (by omega), fun d hd => h (P 4 + d) (by omega)⟩
  have inj : ∀ i j, i < c → j < c → l i = l j → i = j := by
    intro i j hi hj h
    rcases Nat.lt_trichotomy i j with w | w | w
    · have := l2 i j w hj; omega
    · exact w
    · have := l2 j i w hi; omega
  rw [oneT_iff pv]
  have tru := (key (truW P)).mpr (fit_tru pv)
  obtain ⟨jt, hjt, ejt⟩ := l3 (truW P) (truW_lt8 pv) tru.1
  constructor
  · intro h y hy hf
    obtain ⟨f1, f2⟩ := (key y).mpr hf
    obtain ⟨j, hj, ej⟩ := l3 y hy f1
    have := cnt_one (p := fun j => gB P S' k (l j)) (n := c) (by omega) j jt hj hjt (by rw [ej]; exact f2) (by rw [ejt]; exact tru.2)
    rw [← ej, this, ejt]
  · intro h
    have h1 := cnt_pos (p := fun j => gB P S' k (l j)) hjt (by rw [ejt]; exact tru.2)
    have h2 := cnt_le1 (p := fun j => gB P S' k (l j)) (n := c) (fun x y hx hy px py => by
      have a := h (l x) (l1 x hx).2.1 ((key _).mp ⟨(l1 x hx).2.2, px⟩)
      have b := h (l y) (l1 y hy).2.1 ((key _).mp ⟨(l1 y hy).2.2, py⟩)
      exact inj x y hx hy (by rw [a, b]))
    omega
/-- the reference's state while days are tried -/
def SM (π : Nat → Int32) (G : Nat → Nat → Int32) (P : Nat → Nat) (c : Nat) : Prop := (∀ i, i < 13 + P 4 → G 53 i = π i) ∧ G 49 22 = nI c ∧ c ≤ 8 ^ P 3 ∧ LSt G (fitT P (setN P) (P 4)) (8 ^ P 3) c
/-- what it may change -/
def scm (F G : Nat → Nat → Int32) (P : Nat → Nat) : Prop := (∀ p, p ≠ 49 → p ≠ 53 → p ≠ 56 → p ≠ 58 → G p = F p) ∧ (∀ k, k ≠ 18 → k ≠ 19 → k ≠ 20 → k ≠ 24 → k ≠ 25 → k ≠ 26 → G 49 k = F 49 k) ∧ ∀ i, i < 13 + P 4 → G 53 i = F 53 i
theorem scm.trans {F G H : Nat → Nat → Int32} (h1 : scm F G P) (h2 : scm G H P) : scm F H P :=
  ⟨fun p p1 p2 p3 p4 => by rw [h2.1 p p1 p2 p3 p4, h1.1 p p1 p2 p3 p4], fun k k1 k2 k3 k4 k5 k6 => by rw [h2.2.1 k k1 k2 k3 k4 k5 k6, h1.2.1 k k1 k2 k3 k4 k5 k6], fun i hi => by rw [h2.2.2 i hi, h1.2.2 i hi]⟩
theorem SM.mv {π : Nat → Int32} {F G : Nat → Nat → Int32} {c : Nat} (h : SM π F P c) (s : scm F G P) : SM π G P c := by
  obtain ⟨a, b, d, l, l1, l2⟩ := h
  exact ⟨fun i hi => by rw [s.2.2 i hi]; exact a i hi, by rw [s.2.1 22 (by decide) (by decide) (by decide) (by decide) (by decide) (by decide)]; exact b, d, l, fun j hj => by rw [s.1 57 (by decide) (by decide) (by decide) (by decide)]; exact l1 j hj, l2⟩
theorem M_isOne {π : Nat → Int32} {G : Nat → Nat → Int32} {S' : Nat → Nat} {k c : Nat} (hN : 5000 ≤ N) (pv : PV P) (h2 : P 2 ≠ 0) (pm : PM π P) (hk : k ≤ 2) (sm : SM π G P c) (hS : ∀ e, e < P 4 → setN P e = S' e) (hd : ∀ e, P 4 ≤ e → e < P 4 + k → G 53 (13 + e) = nI (S' e) ∧ S' e < 16) (r : Bool) (hr : r = true ↔ oneT P S' (P 4 + k)) : ∃ G', f_X12_isOne N (Hp m G L T) (some 49) (nI k) = some (bB r, Hp m G' L T) ∧ (∀ p, p ≠ 49 → p ≠ 56 → p ≠ 58 → G' p = G p) ∧ ∀ k, k ≠ 18 → k ≠ 19 → k ≠ 20 → G' 49 k = G 49 k := by
  have v3 : P 3 ≤ 4 := pv.2.2.2.1
  have v4 : P 4 ≤ 24 := pv.2.2.2.2.1
  have hp := p8_le v3
  obtain ⟨s1, s2, s3, l, l1, l2, l3⟩ := sm
  have hpw := pw16 v3
  have mv : MV G P S' (P 4 + k) := by
    refine ⟨v3, pv.2.2.1, pv.2.2.2.2.2.2.2.1, by rw [s1 2 (by omega)]; exact pm.1 2 (by omega), by rw [s1 3 (by omega)]; exact pm.1 3 (by omega), fun i hi => by rw [s1 _ (by omega)]; exact (pm.2.1 i hi).1, fun e he => ?_, by omega⟩
    by_cases w : e < P 4
    · rw [← hS e w, s1 _ (by omega)]
      refine ⟨pm.2.2 e w, ?_⟩
      have := pv.2.2.2.2.2.2.2.2 e w
      unfold setN
      omega
    · exact hd e (by omega) he
  obtain ⟨G1, a1, a2, a3, a4⟩ := M_tshown (N := N) (m := m) (F := G) (L := L) (T := T) (c := P 4 + k) hN pv h2 mv (by rw [s1 0 (by omega)]; exact pm.1 0 (by omega)) (by rw [s1 1 (by omega)]; exact pm.1 1 (by omega)) (fun i hi => by rw [s1 _ (by omega)]; exact (pm.2.1 i hi).2) (Nat.le_refl _)
  have mv1 : MV G1 P S' (P 4 + k) := mv.same (a2.1 53 (by decide) (by decide) (by decide))
  obtain ⟨G', r1, r2⟩ := M_one_l (N := N) (m := m) (L := L) (T := T) (l := l) hN pv h2 hk (show c ≤ 4096 by omega) mv1 a3 a4 (by rw [a2.2 22 (by decide) (by decide) (by decide)]; exact s2) (fun j hj => by rw [a2.1 57 (by decide) (by decide) (by decide)]; exact ⟨(l1 j hj).1, by have := (l1 j hj).2.1; omega⟩) N 0 G1 (fun _ _ => rfl) (Nat.zero_le _) (by omega)
  have oc := one_cnt (S' := S') (k := k) (G := G) pv hS l1 l2 l3
  have hrd : decide (fa_cnt (fun j => gB P S' k (l j)) c = 1) = r := by
    cases r
    · exact decide_eq_false (fun q => absurd (hr.mpr (oc.mp q)) (by decide))
    · exact decide_eq_true (oc.mpr (hr.mp rfl))
  rw [hrd] at r1
  have r1' : f_X12_isOne_19 N N (Hp m G1 L T) (some 49) (nI k) (nI (P 4)) 0 0 = some (bB r, Hp m G' L T) := r1
  refine ⟨G', ?_, fun p p1 p2 p3 => by rw [r2 p p2, a2.1 p p2 p1 p3], fun j k1 k2 k3 => by rw [r2 49 (by decide), a2.2 j k1 k2 k3]⟩
  have g4 : G 53 4 = nI (P 4) := by rw [s1 4 (by omega)]; exact pm.1 4 (by omega)
  simp only [f_X12_isOne, f_X12_isOne_0, g4, nI_add, a1, r1', gI_0, gI_2, gI_4, gI_9, gI_15, gI_21, gI_49, gP_0, gP_2, gP_4, gP_9, gP_15, gP_21, gP_49, gR_0, gR_2, gR_4, gR_9, gR_15, gR_21, gR_49, gL_53, gL_54, oPz_0, oPz_1, Option.bind_some, c10, c01, cm1, c00, if_true, if_false, ne_eq, not_true_eq_false, not_false_eq_true]
theorem M_two_l {π : Nat → Int32} {c : Nat} (hN : 5000 ≤ N) (pv : PV P) (h2 : P 2 ≠ 0) (pm : PM π P) : ∀ (n ab : Nat) (G : Nat → Nat → Int32), SM π G P c → no2 P ab → ab ≤ 2 ^ P 3 * 2 ^ P 3 → 2 ^ P 3 * 2 ^ P 3 < ab + n → ∃ G', f_X12_laySoon_84 N n (Hp m G L T) (some 49) (nI (P 4)) (nI (2 ^ P 3)) (nI ab) = some ((), Hp m G' L T) ∧ scm G G' P ∧ ((∃ x y, x < 2 ^ P 3 ∧ y < 2 ^ P 3 ∧ no2 P (x * 2 ^ P 3 + y) ∧ oneT P (S2 P x y) (P 4 + 2) ∧ G' 49 24 = 2 ∧ G' 49 25 = nI x ∧ G' 49 26 = nI y) ∨ (no2 P (2 ^ P 3 * 2 ^ P 3) ∧ G' 49 24 = G 49 24)) := by
  have v3 : P 3 ≤ 4 := pv.2.2.2.1
  have v4 : P 4 ≤ 24 := pv.2.2.2.2.1
  have hpw := pw16 v3
  have hpos := Nat.one_le_two_pow (n := P 3)
  have hsq : 2 ^ P 3 * 2 ^ P 3 ≤ 16 * 16 := Nat.mul_le_mul hpw hpw
  intro n
  induction n with
  | zero => intro ab G _ _ h1 h2; omega
  | succ n ih =>
    intro ab G sm hno h3 h4
    rw [f_X12_laySoon_84, pk_mul]
    by_cases hab : ab = 2 ^ P 3 * 2 ^ P 3
    · rw [if_pos (by rw [hab]; exact Int32.le_refl _)]
      exact ⟨G, rfl, ⟨fun _ _ _ _ _ => rfl, fun _ _ _ _ _ _ _ => rfl, fun _ _ => rfl⟩, Or.inr ⟨by rw [← hab]; exact hno, rfl⟩⟩
    · rw [if_neg (nI_ge (show ab < 2 ^ P 3 * 2 ^ P 3 by omega) (by omega))]
      generalize hx : ab / 2 ^ P 3 = x
      generalize hy : ab % 2 ^ P 3 = y
      have hxy : x * 2 ^ P 3 + y = ab := by rw [← hx, ← hy, Nat.mul_comm]; exact Nat.div_add_mod _ _
      have hxl : x < 2 ^ P 3 := by rw [← hx]; exact Nat.div_lt_of_lt_mul (by omega)
      have hyl : y < 2 ^ P 3 := by rw [← hy]; exact Nat.mod_lt _ (by omega)
      have ed : oDv (nI ab) (nI (2 ^ P 3)) = some (nI x) := by rw [dvN (by omega) (by omega) (by omega), hx]
      have er : oRm (nI ab) (nI (2 ^ P 3)) = some (nI y) := by rw [rmN (by omega) (by omega) (by omega), hy]
      generalize hG1 : up2 (up2 G 53 (13 + P 4) (nI x)) 53 (13 + P 4 + 1) (nI y) = G1
      have sG : scm G G1 P := ⟨fun p p1 p2 p3 p4 => by rw [← hG1, up2_ne p2, up2_ne p2], fun k _ _ _ _ _ _ => by rw [← hG1, up2_ne (by decide), up2_ne (by decide)], fun i hi => by rw [← hG1, up2_o (by omega), up2_o (by omega)]⟩
      have d1 : G1 53 (13 + P 4) = nI x := by rw [← hG1, up2_o (by omega), up2_s]
      have d2 : G1 53 (13 + (P 4 + 1)) = nI y := by rw [← hG1, ← Nat.add_assoc, up2_s]
      have hd : ∀ e, P 4 ≤ e → e < P 4 + 2 → G1 53 (13 + e) = nI (S2 P x y e) ∧ S2 P x y e < 16 := fun e e1 e2 => by
        rcases (show e = P 4 ∨ e = P 4 + 1 by omega) with rfl | rfl
        · rw [S2_lt (by omega), S1_eq]; exact ⟨d1, by omega⟩
        · rw [S2_eq]; exact ⟨d2, by omega⟩
      have hS : ∀ e, e < P 4 → setN P e = S2 P x y e := fun e he => by rw [S2_lt (by omega), S1_lt he]
      by_cases hone : oneT P (S2 P x y) (P 4 + 2)
      · obtain ⟨G2, b1, b2, b3⟩ := M_isOne (N := N) (m := m) (L := L) (T := T) (k := 2) hN pv h2 pm (by omega) (sm.mv sG) hS hd true ⟨fun _ => hone, fun _ => rfl⟩
        have b1' : f_X12_isOne N (Hp m G1 L T) (some 49) 2 = some (1, Hp m G2 L T) := b1
        refine ⟨up2 (up2 (up2 G2 49 24 2) 49 25 (nI x)) 49 26 (nI y), ?_, sG.trans ⟨fun p p1 p2 p3 p4 => by rw [up2_ne p1, up2_ne p1, up2_ne p1]; exact b2 p p1 p3 p4, fun k k1 k2 k3 k4 k5 k6 => by rw [up2_o k6, up2_o k5, up2_o k4]; exact b3 k k1 k2 k3, fun i hi => by rw [up2_ne (by decide), up2_ne (by decide), up2_ne (by decide), b2 53 (by decide) (by decide) (by decide)]⟩, Or.inl ⟨x, y, hxl, hyl, by rw [hxy]; exact hno, hone, ?_, ?_, ?_⟩⟩
        · simp only [ed, er, ix13, nI_1, (gN_53 (show 13 + P 4 < 39 by omega)).2, (gN_53 (show 13 + P 4 + 1 < 39 by omega)).2, hG1, b1', gI_0, gI_2, gI_4, gI_9, gI_15, gI_21, gI_49, gP_0, gP_2, gP_4, gP_9, gP_15, gP_21, gP_49, gR_0, gR_2, gR_4, gR_9, gR_15, gR_21, gR_49, gL_53, gL_54, oPz_0, oPz_1, Option.bind_some, c10, c01, cm1, c00, if_true, if_false, ne_eq, not_true_eq_false, not_false_eq_true]
        · simp (disch := omega) only [up2_ne, up2_o, up2_s]
        · simp (disch := omega) only [up2_ne, up2_o, up2_s]
        · simp (disch := omega) only [up2_ne, up2_o, up2_s]
      · obtain ⟨G2, b1, b2, b3⟩ := M_isOne (N := N) (m := m) (L := L) (T := T) (k := 2) hN pv h2 pm (by omega) (sm.mv sG) hS hd false ⟨fun q => absurd q (by decide), fun q => absurd q hone⟩
        have b1' : f_X12_isOne N (Hp m G1 L T) (some 49) 2 = some (0, Hp m G2 L T) := b1
        have s2 : scm G G2 P := sG.trans ⟨fun p p1 p2 p3 p4 => b2 p p1 p3 p4, fun k k1 k2 k3 _ _ _ => b3 k k1 k2 k3, fun i _ => by rw [b2 53 (by decide) (by decide) (by decide)]⟩
        obtain ⟨G', r1, r2, r3⟩ := ih (ab + 1) G2 (sm.mv s2) (fun a b ha hb hlt => by
          by_cases w : a * 2 ^ P 3 + b < ab
          · exact hno a b ha hb w
          · have heq : a * 2 ^ P 3 + b = ab := by omega
            have e1 : a = x := by
              rw [← hx, ← heq, Nat.mul_comm, Nat.mul_add_div (by omega), Nat.div_eq_of_lt hb, Nat.add_zero]
            have e2 : b = y := by
              rw [← hy, ← heq, Nat.mul_comm, Nat.mul_add_mod, Nat.mod_eq_of_lt hb]
            rw [e1, e2]
            exact hone) (by omega) (by omega)
        refine ⟨G', ?_, s2.trans r2, ?_⟩
        · simp only [ed, er, ix13, nI_1, (gN_53 (show 13 + P 4 < 39 by omega)).2, (gN_53 (show 13 + P 4 + 1 < 39 by omega)).2, hG1, b1', gI_0, gI_2, gI_4, gI_9, gI_15, gI_21, gI_49, gP_0, gP_2, gP_4, gP_9, gP_15, gP_21, gP_49, gR_0, gR_2, gR_4, gR_9, gR_15, gR_21, gR_49, gL_53, gL_54, oPz_0, oPz_1, Option.bind_some, c10, c01, cm1, c00, if_true, if_false, ne_eq, not_true_eq_false, not_false_eq_true]
          exact r1
        · rcases r3 with w | ⟨w1, w2⟩
          · exact Or.inl w
          · refine Or.inr ⟨w1, ?_⟩
            rw [w2, b3 24 (by decide) (by decide) (by decide), ← hG1, up2_ne (by decide), up2_ne (by decide)]
theorem M_one1_l {π : Nat → Int32} {c : Nat} (hN : 5000 ≤ N) (pv : PV P) (h2 : P 2 ≠ 0) (pm : PM π P) (hn0 : no0 P) : ∀ (n a : Nat) (G : Nat → Nat → Int32), SM π G P c → no1 P a → G 49 24 = -1000000 → a ≤ 2 ^ P 3 → 2 ^ P 3 < a + n → ∃ G', f_X12_laySoon_42 N n (Hp m G L T) (some 49) (nI (P 4)) (nI (2 ^ P 3)) (nI a) = some ((), Hp m G' L T) ∧ scm G G' P ∧ SoonIs P (G' 49 24) (G' 49 25) (G' 49 26) := by
  have v3 : P 3 ≤ 4 := pv.2.2.2.1
  have v4 : P 4 ≤ 24 := pv.2.2.2.2.1
  have hpw := pw16 v3
  have hpos := Nat.one_le_two_pow (n := P 3)
  have hsq : 2 ^ P 3 * 2 ^ P 3 ≤ 16 * 16 := Nat.mul_le_mul hpw hpw
  intro n
  induction n with
  | zero => intro a G _ _ _ h1 h2; omega
  | succ n ih =>
    intro a G sm hno g24 h3 h4
    rw [f_X12_laySoon_42]
    by_cases ha : a = 2 ^ P 3
    · rw [if_pos (by rw [ha]; exact Int32.le_refl _)]
      rw [ha] at hno
      obtain ⟨G', r1, r2, r3⟩ := M_two_l (N := N) (m := m) (L := L) (T := T) hN pv h2 pm N 0 G sm (fun x y _ _ h => by omega) (Nat.zero_le _) (by omega)
      refine ⟨G', r1, r2, ?_⟩
      rcases r3 with ⟨x, y, w1, w2, w3, w4, w5, w6, w7⟩ | ⟨w1, w2⟩
      · exact Or.inr (Or.inr (Or.inl ⟨hn0, hno, x, y, w1, w2, w3, w4, w5, w6, w7⟩))
      · exact Or.inr (Or.inr (Or.inr ⟨hn0, hno, w1, by rw [w2, g24]⟩))
    · rw [if_neg (nI_ge (show a < 2 ^ P 3 by omega) (by omega))]
      generalize hG1 : up2 G 53 (13 + P 4) (nI a) = G1
      have sG : scm G G1 P := ⟨fun p p1 p2 p3 p4 => by rw [← hG1, up2_ne p2], fun k _ _ _ _ _ _ => by rw [← hG1, up2_ne (by decide)], fun i hi => by rw [← hG1, up2_o (by omega)]⟩
      have hd : ∀ e, P 4 ≤ e → e < P 4 + 1 → G1 53 (13 + e) = nI (S1 P a e) ∧ S1 P a e < 16 := fun e e1 e2 => by
        rcases (show e = P 4 by omega) with rfl
        rw [S1_eq, ← hG1, up2_s]
        exact ⟨rfl, by omega⟩
      have hS : ∀ e, e < P 4 → setN P e = S1 P a e := fun e he => (S1_lt he).symm
      by_cases hone : oneT P (S1 P a) (P 4 + 1)
      · obtain ⟨G2, b1, b2, b3⟩ := M_isOne (N := N) (m := m) (L := L) (T := T) (k := 1) hN pv h2 pm (by omega) (sm.mv sG) hS hd true ⟨fun _ => hone, fun _ => rfl⟩
        have b1' : f_X12_isOne N (Hp m G1 L T) (some 49) 1 = some (1, Hp m G2 L T) := b1
        refine ⟨up2 (up2 G2 49 24 1) 49 25 (nI a), ?_, sG.trans ⟨fun p p1 p2 p3 p4 => by rw [up2_ne p1, up2_ne p1]; exact b2 p p1 p3 p4, fun k k1 k2 k3 k4 k5 k6 => by rw [up2_o k5, up2_o k4]; exact b3 k k1 k2 k3, fun i hi => by rw [up2_ne (by decide), up2_ne (by decide), b2 53 (by decide) (by decide) (by decide)]⟩, Or.inr (Or.inl ⟨hn0, a, by omega, hno, hone, ?_, ?_⟩)⟩
        · simp only [ix13, (gN_53 (show 13 + P 4 < 39 by omega)).2, hG1, b1', gI_0, gI_2, gI_4, gI_9, gI_15, gI_21, gI_49, gP_0, gP_2, gP_4, gP_9, gP_15, gP_21, gP_49, gR_0, gR_2, gR_4, gR_9, gR_15, gR_21, gR_49, gL_53, gL_54, oPz_0, oPz_1, Option.bind_some, c10, c01, cm1, c00, if_true, if_false, ne_eq, not_true_eq_false, not_false_eq_true]
        · simp (disch := omega) only [up2_ne, up2_o, up2_s]
        · simp (disch := omega) only [up2_ne, up2_o, up2_s]
      · obtain ⟨G2, b1, b2, b3⟩ := M_isOne (N := N) (m := m) (L := L) (T := T) (k := 1) hN pv h2 pm (by omega) (sm.mv sG) hS hd false ⟨fun q => absurd q (by decide), fun q => absurd q hone⟩
        have b1' : f_X12_isOne N (Hp m G1 L T) (some 49) 1 = some (0, Hp m G2 L T) := b1
        have s2 : scm G G2 P := sG.trans ⟨fun p p1 p2 p3 p4 => b2 p p1 p3 p4, fun k k1 k2 k3 _ _ _ => b3 k k1 k2 k3, fun i _ => by rw [b2 53 (by decide) (by decide) (by decide)]⟩
        obtain ⟨G', r1, r2, r3⟩ := ih (a + 1) G2 (sm.mv s2) (fun x hx => by
          by_cases w : x = a
          · rw [w]; exact hone
          · exact hno x (by omega)) (by rw [b3 24 (by decide) (by decide) (by decide), ← hG1, up2_ne (by decide)]; exact g24) (by omega) (by omega)
        refine ⟨G', ?_, s2.trans r2, r3⟩
        simp only [ix13, (gN_53 (show 13 + P 4 < 39 by omega)).2, hG1, b1', nI_1, gI_0, gI_2, gI_4, gI_9, gI_15, gI_21, gI_49, gP_0, gP_2, gP_4, gP_9, gP_15, gP_21, gP_49, gR_0, gR_2, gR_4, gR_9, gR_15, gR_21, gR_49, gL_53, gL_54, oPz_0, oPz_1, Option.bind_some, c10, c01, cm1, c00, if_true, if_false, ne_eq, not_true_eq_false, not_false_eq_true]
        exact r1
theorem M_soon {F : Nat → Nat → Int32} (hN : 5000 ≤ N) (pv : PV P) (h2 : P 2 ≠ 0) (pm : PM (F 53) P) : ∃ G, f_X12_laySoon N (Hp m F L T) (some 49) = some ((), Hp m G L T) ∧ SoonIs P (G 49 24) (G 49 25) (G 49 26) ∧ (∀ p, p ≠ 49 → p ≠ 53 → p ≠ 56 → p ≠ 57 → p ≠ 58 → G p = F p) ∧ (∀ i, i < 13 + P 4 → G 53 i = F 53 i) ∧ ∀ k, k ≠ 18 → k ≠ 19 → k ≠ 20 → k ≠ 22 → k ≠ 24 → k ≠ 25 → k ≠ 26 → G 49 k = F 49 k := by
  have v3 : P 3 ≤ 4 := pv.2.2.2.1
  have v4 : P 4 ≤ 24 := pv.2.2.2.2.1
  have hp := p8_le v3
  have hpw := pw16 v3
  have hpos := Nat.one_le_two_pow (n := P 3)
  have mv0 : MV (up2 F 49 24 (-1000000)) P (setN P) (P 4) := (MV_of pv pm).same (by rw [up2_ne (by decide)])
  have e45 : up2 F 49 24 (-1000000) 53 = F 53 := by rw [up2_ne (by decide)]
  obtain ⟨F1, a1, a2, a3, a4⟩ := M_tshown (N := N) (m := m) (F := up2 F 49 24 (-1000000)) (L := L) (T := T) (c := P 4) hN pv h2 mv0 (by rw [e45]; exact pm.1 0 (by omega)) (by rw [e45]; exact pm.1 1 (by omega)) (fun i hi => by rw [e45]; exact (pm.2.1 i hi).2) (Nat.le_refl _)
  have f45 : F1 53 = F 53 := by rw [a2.1 53 (by decide) (by decide) (by decide), e45]
  generalize hF2 : up2 F1 49 22 0 = F2
  have q45 : F2 53 = F 53 := by rw [← hF2, up2_ne (by decide), f45]
  have mw2 : MW F2 P (truN P) (P 0) (P 1) 1000 := by
    obtain ⟨w1, w2⟩ := a3
    rw [← hF2]
    refine ⟨fun t ht => by rw [up2_ne (by decide)]; exact w1 t ht, ?_⟩
    rw [up2_o (by decide), up2_o (by decide), up2_o (by decide)]
    exact w2
  obtain ⟨F3, c, b1, b2, b3, b4, b5, b6⟩ := M_left_l (N := N) (m := m) (L := L) (T := T) (G0 := F2) hN pv h2 ((MV_of pv pm).same q45) mw2 (by rw [q45]; exact pm.1 4 (by omega)) (fun d hd => by rw [← hF2, up2_ne (by decide)]; exact a4 d hd) N 0 0 F2 (fun _ _ _ _ => rfl) (fun _ _ => rfl) (by rw [← hF2, up2_s]; rfl) (Nat.le_refl _) ⟨fun _ => 0, fun j hj => by omega, fun i j _ hj => by omega, fun y hy => by omega⟩ (Nat.zero_le _) (by omega)
  have b1' : f_X12_layLeft_17 N N (Hp m F2 L T) (some 49) 0 = some ((), Hp m F3 L T) := b1
  have r45 : F3 53 = F 53 := by rw [b2 53 (by decide) (by decide) (by decide), q45]
  have left : f_X12_layLeft N (Hp m (up2 F 49 24 (-1000000)) L T) (some 49) = some ((), Hp m F3 L T) := by
    have e4 : up2 F 49 24 (-1000000) 53 4 = nI (P 4) := by rw [e45]; exact pm.1 4 (by omega)
    simp only [f_X12_layLeft, f_X12_layLeft_0, e4, a1, hF2, b1', gI_0, gI_2, gI_4, gI_9, gI_15, gI_21, gI_49, gP_0, gP_2, gP_4, gP_9, gP_15, gP_21, gP_49, gR_0, gR_2, gR_4, gR_9, gR_15, gR_21, gR_49, gL_53, gL_54, oPz_0, oPz_1, Option.bind_some, c10, c01, cm1, c00, if_true, if_false, ne_eq, not_true_eq_false, not_false_eq_true]
  have r44 : F3 53 4 = nI (P 4) := by rw [r45]; exact pm.1 4 (by omega)
  have r43 : F3 53 3 = nI (P 3) := by rw [r45]; exact pm.1 3 (by omega)
  have k41 : ∀ k, k ≠ 18 → k ≠ 19 → k ≠ 20 → k ≠ 22 → k ≠ 24 → F3 49 k = F 49 k := fun k k1 k2 k3 k4 k5 => by rw [b3 k k4, ← hF2, up2_o k4, a2.2 k k1 k2 k3, up2_o k5]
  have k24 : F3 49 24 = -1000000 := by rw [b3 24 (by decide), ← hF2, up2_o (by decide), a2.2 24 (by decide) (by decide) (by decide), up2_s]
  have kp : ∀ p, p ≠ 49 → p ≠ 53 → p ≠ 56 → p ≠ 57 → p ≠ 58 → F3 p = F p := fun p p1 p2 p3 p4 p5 => by rw [b2 p p3 p4 p1, ← hF2, up2_ne p1, a2.1 p p3 p1 p5, up2_ne p1]
  obtain ⟨l, l1, l2, l3⟩ := b6
  have hone0 : c = 1 ↔ oneT P (setN P) (P 4) := by
    have := one_cnt (G := F3) (S := setN P) (S' := setN P) (k := 0) pv (fun _ _ => rfl) l1 l2 l3
    rw [Nat.add_zero] at this
    rw [← this]
    have hall : fa_cnt (fun j => gB P (setN P) 0 (l j)) c = c := by
      rw [fa_cnt_cong (p := fun j => gB P (setN P) 0 (l j)) (q := fun _ => true) (fun k _ => decide_eq_true (fun d hd => by omega)), cnt_all]
    rw [hall]
  by_cases hc : c = 1
  · refine ⟨up2 F3 49 24 0, ?_, Or.inl ⟨hone0.mp hc, up2_s _ _ _ _⟩, fun p p1 p2 p3 p4 p5 => by rw [up2_ne p1]; exact kp p p1 p2 p3 p4 p5, fun i _ => by rw [up2_ne (by decide), r45], fun k k1 k2 k3 k4 k5 k6 k7 => by rw [up2_o k5]; exact k41 k k1 k2 k3 k4 k5⟩
    have : F3 49 22 = 1 := by rw [b4, hc]; rfl
    simp only [f_X12_laySoon, f_X12_laySoon_0, left, r44, r43, this, gI_0, gI_2, gI_4, gI_9, gI_15, gI_21, gI_49, gP_0, gP_2, gP_4, gP_9, gP_15, gP_21, gP_49, gR_0, gR_2, gR_4, gR_9, gR_15, gR_21, gR_49, gL_53, gL_54, oPz_0, oPz_1, Option.bind_some, c10, c01, cm1, c00, if_true, if_false, ne_eq, not_true_eq_false, not_false_eq_true]
  · have hn0 : no0 P := fun h => hc (hone0.mpr h)
    have nc1 : ¬ nI c = 1 := fun q => hc ((nI_eq (b := 1) (by omega) (by omega)).mp q)
    obtain ⟨G, r1, r2, r3⟩ := M_one1_l (N := N) (m := m) (L := L) (T := T) (π := F 53) (c := c) hN pv h2 pm hn0 N 0 F3 ⟨fun i _ => by rw [r45], b4, b5, l, l1, l2, l3⟩ (fun x hx => by omega) k24 (Nat.zero_le _) (by omega)
    have r1' : f_X12_laySoon_42 N N (Hp m F3 L T) (some 49) (nI (P 4)) (nI (2 ^ P 3)) 0 = some ((), Hp m G L T) := r1
    refine ⟨G, ?_, r3, fun p p1 p2 p3 p4 p5 => by rw [r2.1 p p1 p2 p3 p5, kp p p1 p2 p3 p4 p5], fun i hi => by rw [r2.2.2 i hi, r45], fun k k1 k2 k3 k4 k5 k6 k7 => by rw [r2.2.1 k k1 k2 k3 k5 k6 k7, k41 k k1 k2 k3 k4 k5]⟩
    simp only [f_X12_laySoon, f_X12_laySoon_0, left, r44, r43, b4, nc1, shl1 (show P 3 < 32 by omega), r1', gI_0, gI_2, gI_4, gI_9, gI_15, gI_21, gI_49, gP_0, gP_2, gP_4, gP_9, gP_15, gP_21, gP_49, gR_0, gR_2, gR_4, gR_9, gR_15, gR_21, gR_49, gL_53, gL_54, oPz_0, oPz_1, Option.bind_some, c10, c01, cm1, c00, if_true, if_false, ne_eq, not_true_eq_false, not_false_eq_true]
end MS1
theorem soon_u {P : Nat → Nat} {d a b d' a' b' : Int32} (h : SoonIs P d a b) (h' : SoonIs P d' a' b') : d = d' ∧ (0 < d → a = a') ∧ (1 < d → b = b') := by
  rcases h with ⟨h1, h2⟩ | ⟨h1, x, x1, x2, x3, x4, x5⟩ | ⟨h1, h2, x, y, x1, y1, xy, x3, x4, x5, x6⟩ | ⟨h1, h2, h3, h4⟩ <;> rcases h' with ⟨k1, k2⟩ | ⟨k1, u, u1, u2, u3, u4, u5⟩ | ⟨k1, k2, u, v, u1, v1, uv, u3, u4, u5, u6⟩ | ⟨k1, k2, k3, k4⟩
  · rw [h2, k2]; exact ⟨rfl, fun q => absurd q (by decide), fun q => absurd q (by decide)⟩
  · exact absurd h1 k1
  · exact absurd h1 k1
  · exact absurd h1 k1
  · exact absurd k1 h1
  · have : x = u := by
      rcases Nat.lt_trichotomy x u with w | w | w
      · exact absurd x3 (u2 x w)
      · exact w
      · exact absurd u3 (x2 u w)
    rw [x4, u4, x5, u5, this]
    exact ⟨rfl, fun _ => rfl, fun q => absurd q (by decide)⟩
  · exact absurd x3 (k2 x x1)
  · exact absurd x3 (k2 x x1)
  · exact absurd k1 h1
  · exact absurd u3 (h2 u u1)
  · have hp : ∀ (x y u v : Nat), x < 2 ^ P 3 → y < 2 ^ P 3 → v < 2 ^ P 3 → x * 2 ^ P 3 + y = u * 2 ^ P 3 + v → x = u ∧ y = v := by
      intro x y u v hx hy hv h
      have e1 : (x * 2 ^ P 3 + y) / 2 ^ P 3 = x := by rw [Nat.mul_comm, Nat.mul_add_div (by omega), Nat.div_eq_of_lt hy, Nat.add_zero]
      have e2 : (u * 2 ^ P 3 + v) / 2 ^ P 3 = u := by rw [Nat.mul_comm, Nat.mul_add_div (by omega), Nat.div_eq_of_lt hv, Nat.add_zero]
      have : x = u := by rw [← e1, h, e2]
      subst this
      omega
    have he : x * 2 ^ P 3 + y = u * 2 ^ P 3 + v := by
      rcases Nat.lt_trichotomy (x * 2 ^ P 3 + y) (u * 2 ^ P 3 + v) with w | w | w
      · exact absurd x3 (uv x y x1 y1 w)
      · exact w
      · exact absurd u3 (xy u v u1 v1 w)
    obtain ⟨e1, e2⟩ := hp x y u v x1 y1 v1 he
    rw [x4, u4, x5, u5, x6, u6, e1, e2]
    exact ⟨rfl, fun _ => rfl, fun _ => rfl⟩
  · have lt : x * 2 ^ P 3 + y < 2 ^ P 3 * 2 ^ P 3 := by
      have : (x + 1) * 2 ^ P 3 ≤ 2 ^ P 3 * 2 ^ P 3 := Nat.mul_le_mul_right _ x1
      rw [Nat.add_mul] at this
      omega
    exact absurd x3 (k3 x y x1 y1 lt)
  · exact absurd k1 h1
  · exact absurd u3 (h2 u u1)
  · have lt : u * 2 ^ P 3 + v < 2 ^ P 3 * 2 ^ P 3 := by
      have : (u + 1) * 2 ^ P 3 ≤ 2 ^ P 3 * 2 ^ P 3 := Nat.mul_le_mul_right _ u1
      rw [Nat.add_mul] at this
      omega
    exact absurd u3 (h3 u v u1 v1 lt)
  · rw [h4, k4]; exact ⟨rfl, fun q => absurd q (by decide), fun q => absurd q (by decide)⟩
theorem soon_d {P : Nat → Nat} {d a b : Int32} (h : SoonIs P d a b) : d = 0 ∨ d = 1 ∨ d = 2 ∨ d = -1000000 := by
  rcases h with ⟨h1, h2⟩ | ⟨h1, x, x1, x2, x3, x4, x5⟩ | ⟨h1, h2, x, y, x1, y1, xy, x3, x4, x5, x6⟩ | ⟨h1, h2, h3, h4⟩
  · exact Or.inl h2
  · exact Or.inr (Or.inl x4)
  · exact Or.inr (Or.inr (Or.inl x4))
  · exact Or.inr (Or.inr (Or.inr h4))
theorem o_soon (N : Nat) (hN : 5000 ≤ N) (m : Nat) (F : Nat → Nat → Int32) (L : Nat → Nat → Option Nat) (T : Nat → Nat) (hm : m ≤ 3000) (R : Rel m F L T) (a : Int32) : OpOk (fun A => f_X11_soon N A (some 0) a) (fun A => f_X12_soon N A (some 49) a) m F L T := by
  obtain ⟨P, pv, pm, pc, sr⟩ := R.2.2.1
  have v2 : P 2 ≤ 200 := pv.2.2.1
  have c0 := pc.1
  have m2 : up2 F 49 0 0 53 2 = nI (P 2) := by simp (disch := omega) only [up2_ne, up2_o, up2_s]; exact pm.1 2 (by omega)
  by_cases hp2 : P 2 = 0
  · rw [if_pos hp2] at c0
    refine ⟨-1000002, m, F, L, T, up2 F 49 0 0, ?_, ?_, R.thr 0, by omega⟩
    · simp only [f_X11_soon, f_X11_soon_0, c0, gI_0, gI_2, gI_4, gI_9, gI_15, gI_21, gI_49, gP_0, gP_2, gP_4, gP_9, gP_15, gP_21, gP_49, gR_0, gR_2, gR_4, gR_9, gR_15, gR_21, gR_49, gL_53, gL_54, oPz_0, oPz_1, Option.bind_some, c10, c01, cm1, c00, if_true, if_false, ne_eq, not_true_eq_false, not_false_eq_true]
    · simp only [f_X12_soon, f_X12_soon_0, M_there_n m2 hp2, gI_0, gI_2, gI_4, gI_9, gI_15, gI_21, gI_49, gP_0, gP_2, gP_4, gP_9, gP_15, gP_21, gP_49, gR_0, gR_2, gR_4, gR_9, gR_15, gR_21, gR_49, gL_53, gL_54, oPz_0, oPz_1, Option.bind_some, c10, c01, cm1, c00, if_true, if_false, ne_eq, not_true_eq_false, not_false_eq_true]
  rw [if_neg hp2] at c0
  by_cases ha : (-1 : Int32) ≤ a
  case neg =>
    refine ⟨-1000001, m, F, L, T, up2 F 49 0 0, ?_, ?_, R.thr 0, by omega⟩
    · simp only [f_X11_soon, f_X11_soon_0, c0, ha, gI_0, gI_2, gI_4, gI_9, gI_15, gI_21, gI_49, gP_0, gP_2, gP_4, gP_9, gP_15, gP_21, gP_49, gR_0, gR_2, gR_4, gR_9, gR_15, gR_21, gR_49, gL_53, gL_54, oPz_0, oPz_1, Option.bind_some, c10, c01, cm1, c00, if_true, if_false, ne_eq, not_true_eq_false, not_false_eq_true]
    · simp only [f_X12_soon, f_X12_soon_0, M_there_y m2 hp2 v2, ha, gI_0, gI_2, gI_4, gI_9, gI_15, gI_21, gI_49, gP_0, gP_2, gP_4, gP_9, gP_15, gP_21, gP_49, gR_0, gR_2, gR_4, gR_9, gR_15, gR_21, gR_49, gL_53, gL_54, oPz_0, oPz_1, Option.bind_some, c10, c01, cm1, c00, if_true, if_false, ne_eq, not_true_eq_false, not_false_eq_true]
  obtain ⟨F1, a1, a2, a3, a4, a5⟩ := C_learn (N := N) hN pv pc sr
  have f45 : up2 F1 49 0 0 53 = F 53 := by rw [up2_ne (by decide), a4 53 (by decide) (by decide) (by decide) (by decide) (by decide) (by decide) (by decide)]
  obtain ⟨G, b1, b2, b3, b4, b5⟩ := M_soon (N := N) (m := m) (F := up2 F1 49 0 0) (L := L) (T := T) hN pv hp2 (by rw [f45]; exact pm)
  obtain ⟨u1, u2, u3⟩ := soon_u a3 b2
  have gp : ∀ p, p ≠ 49 → p ≠ 53 → p ≠ 56 → p ≠ 57 → p ≠ 58 → p ≠ 8 → p ≠ 15 → p ≠ 16 → p ≠ 17 → p ≠ 18 → p ≠ 19 → p ≠ 20 → G p = F p := fun p p1 p2 p3 p4 p5 p6 p7 p8 p9 p10 p11 p12 => by rw [b3 p p1 p2 p3 p4 p5, up2_ne p1, a4 p p6 p7 p8 p9 p10 p11 p12]
  have gk : ∀ k, k ≠ 18 → k ≠ 19 → k ≠ 20 → k ≠ 22 → k ≠ 24 → k ≠ 25 → k ≠ 26 → k ≠ 0 → G 49 k = F 49 k := fun k k1 k2 k3 k4 k5 k6 k7 k8 => by rw [b5 k k1 k2 k3 k4 k5 k6 k7, up2_o k8, a4 49 (by decide) (by decide) (by decide) (by decide) (by decide) (by decide) (by decide)]
  have g11 : G 15 = F1 15 := by rw [b3 15 (by decide) (by decide) (by decide) (by decide) (by decide), up2_ne (by decide)]
  have rel : Rel m G L T := by
    refine R.scr3 pv pm pc ?_ (fun p hp => gp p (by omega) (by omega) (by omega) (by omega) (by omega) (by omega) (by omega) (by omega) (by omega) (by omega) (by omega) (by omega)) (gp 4 (by decide) (by decide) (by decide) (by decide) (by decide) (by decide) (by decide) (by decide) (by decide) (by decide) (by decide) (by decide)) (fun j hj => ?_) (fun i hi => ?_) ?_ ?_ (by rw [gp 2 (by decide) (by decide) (by decide) (by decide) (by decide) (by decide) (by decide) (by decide) (by decide) (by decide) (by decide) (by decide)]) (gk 8 (by decide) (by decide) (by decide) (by decide) (by decide) (by decide) (by decide) (by decide)) (by rw [gp 21 (by decide) (by decide) (by decide) (by decide) (by decide) (by decide) (by decide) (by decide) (by decide) (by decide) (by decide) (by decide)]) (gk 30 (by decide) (by decide) (by decide) (by decide) (by decide) (by decide) (by decide) (by decide))
    · unfold SoonR
      rw [g11]
      exact Or.inr ⟨a2, a3⟩
    · rw [b3 8 (by decide) (by decide) (by decide) (by decide) (by decide), up2_ne (by decide)]; exact a5 j hj
    · rw [b4 i hi, f45]
    · rw [gp 0 (by decide) (by decide) (by decide) (by decide) (by decide) (by decide) (by decide) (by decide) (by decide) (by decide) (by decide) (by decide), gk 9 (by decide) (by decide) (by decide) (by decide) (by decide) (by decide) (by decide) (by decide)]; exact R.2.2.2.2.1
    · rw [gp 0 (by decide) (by decide) (by decide) (by decide) (by decide) (by decide) (by decide) (by decide) (by decide) (by decide) (by decide) (by decide), gk 1 (by decide) (by decide) (by decide) (by decide) (by decide) (by decide) (by decide) (by decide)]; exact R.2.2.2.2.2.1
  have m2' : up2 F1 49 0 0 53 2 = nI (P 2) := by rw [f45]; exact pm.1 2 (by omega)
  by_cases h0 : a < 0
  · have h0' : ¬ (0 : Int32) ≤ a := Int32.not_le.mpr h0
    refine ⟨F1 15 0, m, F1, L, T, G, ?_, ?_, rel, by omega⟩
    · simp only [f_X11_soon, f_X11_soon_0, f_X11_soon_54, c0, ha, h0', a1, gI_0, gI_2, gI_4, gI_9, gI_15, gI_21, gI_49, gP_0, gP_2, gP_4, gP_9, gP_15, gP_21, gP_49, gR_0, gR_2, gR_4, gR_9, gR_15, gR_21, gR_49, gL_53, gL_54, oPz_0, oPz_1, Option.bind_some, c10, c01, cm1, c00, if_true, if_false, ne_eq, not_true_eq_false, not_false_eq_true]
    · simp only [f_X12_soon, f_X12_soon_0, f_X12_soon_39, f_X12_soon_52, M_there_y m2' hp2 v2, ha, b1, h0, h0', gI_0, gI_2, gI_4, gI_9, gI_15, gI_21, gI_49, gP_0, gP_2, gP_4, gP_9, gP_15, gP_21, gP_49, gR_0, gR_2, gR_4, gR_9, gR_15, gR_21, gR_49, gL_53, gL_54, oPz_0, oPz_1, Option.bind_some, c10, c01, cm1, c00, if_true, if_false, ne_eq, not_true_eq_false, not_false_eq_true]
      rw [u1]
  · have h0' : (0 : Int32) ≤ a := Int32.not_lt.mp h0
    by_cases h1 : a < F1 15 0
    · have h1' : a < G 49 24 := by rw [← u1]; exact h1
      have hpos : (0 : Int32) < F1 15 0 := by
        rw [fa_lt]
        have e1 := (fa_le _ _).mp h0'
        have e2 := (fa_lt _ _).mp h1
        omega
      by_cases ha0 : a = 0
      · refine ⟨F1 15 2, m, F1, L, T, G, ?_, ?_, rel, by omega⟩
        · simp only [f_X11_soon, f_X11_soon_0, f_X11_soon_54, c0, ha, h0', a1, f_X10_soonSet, f_X10_soonSet_0, f_X10_soonSet_30, h0, h1, ha0, gI_0, gI_2, gI_4, gI_9, gI_15, gI_21, gI_49, gP_0, gP_2, gP_4, gP_9, gP_15, gP_21, gP_49, gR_0, gR_2, gR_4, gR_9, gR_15, gR_21, gR_49, gL_53, gL_54, oPz_0, oPz_1, Option.bind_some, c10, c01, cm1, c00, if_true, if_false, ne_eq, not_true_eq_false, not_false_eq_true]
          rw [ha0] at h1
          simp only [h1, gI_0, gI_2, gI_4, gI_9, gI_15, gI_21, gI_49, gP_0, gP_2, gP_4, gP_9, gP_15, gP_21, gP_49, gR_0, gR_2, gR_4, gR_9, gR_15, gR_21, gR_49, gL_53, gL_54, oPz_0, oPz_1, Option.bind_some, c10, c01, cm1, c00, if_true, if_false, ne_eq, not_true_eq_false, not_false_eq_true]
          simp
        · simp only [f_X12_soon, f_X12_soon_0, f_X12_soon_68, M_there_y m2' hp2 v2, ha, b1, h0, h1', gI_0, gI_2, gI_4, gI_9, gI_15, gI_21, gI_49, gP_0, gP_2, gP_4, gP_9, gP_15, gP_21, gP_49, gR_0, gR_2, gR_4, gR_9, gR_15, gR_21, gR_49, gL_53, gL_54, oPz_0, oPz_1, Option.bind_some, c10, c01, cm1, c00, if_true, if_false, ne_eq, not_true_eq_false, not_false_eq_true]
          rw [if_pos ha0, u2 hpos]
      · have h1pos : (1 : Int32) < F1 15 0 := by
          rw [fa_lt]
          have e1 := (fa_le _ _).mp h0'
          have e2 := (fa_lt _ _).mp h1
          have e3 : a.toInt ≠ 0 := fun q => ha0 ((fa_eq _ _).mpr q)
          have e4 : (0 : Int32).toInt = 0 := rfl
          have e5 : (1 : Int32).toInt = 1 := by decide
          omega
        refine ⟨F1 15 3, m, F1, L, T, G, ?_, ?_, rel, by omega⟩
        · simp only [f_X11_soon, f_X11_soon_0, f_X11_soon_54, c0, ha, h0', a1, f_X10_soonSet, f_X10_soonSet_0, f_X10_soonSet_30, h0, h1, ha0, gI_0, gI_2, gI_4, gI_9, gI_15, gI_21, gI_49, gP_0, gP_2, gP_4, gP_9, gP_15, gP_21, gP_49, gR_0, gR_2, gR_4, gR_9, gR_15, gR_21, gR_49, gL_53, gL_54, oPz_0, oPz_1, Option.bind_some, c10, c01, cm1, c00, if_true, if_false, ne_eq, not_true_eq_false, not_false_eq_true]
        · simp only [f_X12_soon, f_X12_soon_0, f_X12_soon_68, M_there_y m2' hp2 v2, ha, b1, h0, h1', ha0, gI_0, gI_2, gI_4, gI_9, gI_15, gI_21, gI_49, gP_0, gP_2, gP_4, gP_9, gP_15, gP_21, gP_49, gR_0, gR_2, gR_4, gR_9, gR_15, gR_21, gR_49, gL_53, gL_54, oPz_0, oPz_1, Option.bind_some, c10, c01, cm1, c00, if_true, if_false, ne_eq, not_true_eq_false, not_false_eq_true]
          rw [u3 h1pos]
    · have h1' : ¬ a < G 49 24 := by rw [← u1]; exact h1
      refine ⟨-1000000, m, F1, L, T, G, ?_, ?_, rel, by omega⟩
      · simp only [f_X11_soon, f_X11_soon_0, f_X11_soon_54, c0, ha, h0', a1, f_X10_soonSet, f_X10_soonSet_0, f_X10_soonSet_12, h0, h1, gI_0, gI_2, gI_4, gI_9, gI_15, gI_21, gI_49, gP_0, gP_2, gP_4, gP_9, gP_15, gP_21, gP_49, gR_0, gR_2, gR_4, gR_9, gR_15, gR_21, gR_49, gL_53, gL_54, oPz_0, oPz_1, Option.bind_some, c10, c01, cm1, c00, if_true, if_false, ne_eq, not_true_eq_false, not_false_eq_true]
      · simp only [f_X12_soon, f_X12_soon_0, f_X12_soon_39, f_X12_soon_52, M_there_y m2' hp2 v2, ha, b1, h0, h1', h0', gI_0, gI_2, gI_4, gI_9, gI_15, gI_21, gI_49, gP_0, gP_2, gP_4, gP_9, gP_15, gP_21, gP_49, gR_0, gR_2, gR_4, gR_9, gR_15, gR_21, gR_49, gL_53, gL_54, oPz_0, oPz_1, Option.bind_some, c10, c01, cm1, c00, if_true, if_false, ne_eq, not_true_eq_false, not_false_eq_true]
