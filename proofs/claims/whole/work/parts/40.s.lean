theorem oK_15 {m q n : Nat} {F : Nat → Nat → Int32} {L : Nat → Nat → Option Nat} {T : Nat → Nat} (hq : q < 8) (hn : n ≤ 24) : oK (Hp m F L T) (some (24 + 2 * q)) 0 (some 19) 0 (nI n) = some (Hp m (up F 19 (va_cpy (F (24 + 2 * q)) (F 19) 0 0 n)) L T) := by
  have e1 : (0 : Int32).toNatClampNeg = 0 := rfl
  have e3 : (nI n).toNatClampNeg = n := nI_clamp (by omega)
  have c15 : ∀ f g t, cG 19 f g t = .inl (0, 24, .inl f) := fun _ _ _ => rfl
  simp only [oK, Hp_get (show 24 + 2 * q < 62 + m by omega), Hp_get (show 19 < 62 + m by omega), cG_r hq, c15, e1, e3]
  rw [if_pos ⟨trivial, trivial, by decide, by decide, nI_pos (by omega), by omega, by omega⟩, Hp_setF (c15 _ _ _).symm]
def fitB (tv : Nat → Int32) (P S : Nat → Nat) (x : Nat) : Bool := decide (bitsN (wrg tv (shW P S x)) (P 4) = 0)
theorem wld_bits {x t : Nat} (hx : x < 2 ^ 31) (ht : t < 10) : (nI x >>> (((3 : Int32) * nI t) &&& 31)) &&& 7 = nI (wldN x t) := by
  rw [show (3 : Int32) = nI 3 from rfl, pk_mul, shrN hx (by omega), p8_eq]
  exact fa_mask (x / 8 ^ t) 3
theorem wld_lt (x t : Nat) : wldN x t < 8 := Nat.mod_lt _ (by decide)
section FTs
variable {N m : Nat} {F : Nat → Nat → Int32} {L : Nat → Nat → Option Nat} {T : Nat → Nat} {P S : Nat → Nat}
theorem C_begin {q : Nat} (hN : 5000 ≤ N) (hq : q < 8) (cv : CV m F L T P (setN P) (P 4)) (hP4 : P 4 ≤ 24) (c5 : F 4 5 = nI (P 4)) : ∃ G, f_X10_begin N (Hp m F L T) (some 15) (some 4) (some (24 + 2 * q)) = some ((), Hp m G L T) ∧ TV G P (setN P) (P 4) ∧ (∀ d, d < P 4 → G 19 d = F (24 + 2 * q) d) ∧ (∀ p, p ≠ 15 → p ≠ 16 → p ≠ 17 → p ≠ 18 → p ≠ 19 → G p = F p) ∧ ∀ k, k < 4 → G 15 k = F 15 k := by
  obtain ⟨G, g1, g2, g3, g4⟩ := C_take (N := N) hN cv (Nat.le_refl _) hP4 c5
  have hp : ∀ p, p ≠ 19 → up G 19 (va_cpy (G (24 + 2 * q)) (G 19) 0 0 (P 4)) p = G p := fun p h => up_n2 h
  refine ⟨up G 19 (va_cpy (G (24 + 2 * q)) (G 19) 0 0 (P 4)), ?_, ?_, fun d hd => ?_, fun p p1 p2 p3 p4 p5 => by rw [hp p p5, g3 p p1 p2 p3 p4], fun k hk => by rw [hp 15 (by decide)]; exact g4 k hk⟩
  · simp only [f_X10_begin, f_X10_begin_0, g1, g2.2.2.1, oK_15 hq hP4, gI_0, gI_2, gI_4, gI_9, gI_15, gI_21, gI_49, gP_0, gP_2, gP_4, gP_9, gP_15, gP_21, gP_49, gR_0, gR_2, gR_4, gR_9, gR_15, gR_21, gR_49, gL_53, gL_54, oPz_0, oPz_1, Option.bind_some, c10, c01, cm1, c00, if_true, if_false, ne_eq, not_true_eq_false, not_false_eq_true]
  · obtain ⟨a1, a2, a3, a4, a5⟩ := g2
    refine ⟨by rw [hp 15 (by decide)]; exact a1, by rw [hp 15 (by decide)]; exact a2, by rw [hp 15 (by decide)]; exact a3, by rw [hp 15 (by decide)]; exact a4, fun e he => ?_⟩
    obtain ⟨b1, b2⟩ := a5 e he
    exact ⟨by rw [hp 18 (by decide)]; exact b1, fun x hx => by rw [hp 16 (by decide), hp 17 (by decide)]; exact b2 x hx⟩
  · rw [up_s, pk_cpy_in (by omega) (by omega), g3 _ (by omega) (by omega) (by omega) (by omega)]
    congr 1
    omega
theorem C_fit_l {x D : Nat} (hN : 5000 ≤ N) (pv : PV P) (tv : TV F P S D) (hD : P 4 ≤ D) (hx : x < 4096) : ∀ (n i : Nat), i ≤ P 4 → P 4 < i + n → bitsN (wrg (F 19) (shW P S x)) i = 0 → f_X10_isFitting_2 N n (Hp m F L T) (some 15) (nI x) (nI i) = some (bB (fitB (F 19) P S x), Hp m F L T) := by
  obtain ⟨v0, v1, v2, v3, v4, -⟩ := pv
  obtain ⟨t4, t5, t6, t7, tt⟩ := tv
  intro n
  induction n with
  | zero => intro i h1 h2; omega
  | succ n ih =>
    intro i h5 h6 h7
    rw [f_X10_isFitting_2]
    simp only [t6, gI_0, gI_2, gI_4, gI_9, gI_15, gI_21, gI_49, gP_0, gP_2, gP_4, gP_9, gP_15, gP_21, gP_49, gR_0, gR_2, gR_4, gR_9, gR_15, gR_21, gR_49, gL_53, gL_54, oPz_0, oPz_1, Option.bind_some, c10, c01, cm1, c00, if_true, if_false, ne_eq, not_true_eq_false, not_false_eq_true]
    unfold fitB
    by_cases hi : i = P 4
    · rw [if_pos (by rw [hi]; exact Int32.le_refl _), ← hi, h7]; rfl
    · have hi' : i < P 4 := by omega
      rw [if_neg (nI_ge hi' (by omega))]
      have ih' := ih (i + 1) (by omega) (by omega)
      rw [bitsN_s, h7, Nat.zero_add] at ih'
      simp only [(gN_19 (show i < 24 by omega)).1, f_X10_isFitting_37, C_shIn hN v3 v0 v1 v2 t4 t5 (fun e he => tt e (show e < D by omega)) (show i ≤ 25 by omega) hx, nI_1, gI_0, gI_2, gI_4, gI_9, gI_15, gI_21, gI_49, gP_0, gP_2, gP_4, gP_9, gP_15, gP_21, gP_49, gR_0, gR_2, gR_4, gR_9, gR_15, gR_21, gR_49, gL_53, gL_54, oPz_0, oPz_1, Option.bind_some, c10, c01, cm1, c00, if_true, if_false, ne_eq, not_true_eq_false, not_false_eq_true]
      by_cases hg : F 19 i = -1
      · rw [if_pos hg]
        exact ih' (by rw [wrg_f (Or.inl hg)]; rfl)
      · rw [if_neg hg]
        by_cases hs : F 19 i = nI (shW P S x i)
        · rw [if_pos hs]
          exact ih' (by rw [wrg_f (Or.inr hs)]; rfl)
        · rw [if_neg hs, if_pos (Or.inl trivial), decide_eq_false (fun q => by
            have := bitsN_0.mp q i hi'
            rw [wrg_t hg hs] at this
            exact absurd this (by decide))]
          rfl
theorem C_fit {x D : Nat} (hN : 5000 ≤ N) (pv : PV P) (tv : TV F P S D) (hD : P 4 ≤ D) (hx : x < 4096) : f_X10_isFitting N (Hp m F L T) (some 15) (nI x) = some (bB (fitB (F 19) P S x), Hp m F L T) :=
  C_fit_l hN pv tv hD hx N 0 (by omega) (by have := pv.2.2.2.2.1; omega) rfl
theorem C_wIn {A : hP} {x t : Nat} (hx : x < 4096) (ht : t < 10) : f_X10_weightIn N A (nI x) (nI t) = some (nI (wldN x t), A) := by
  simp only [f_X10_weightIn, f_X10_weightIn_0, wld_bits (show x < 2 ^ 31 by omega) ht]
theorem M_layW_l {x : Nat} {G0 : Nat → Nat → Int32} (hx : x < 2 ^ 31) (h3 : P 3 ≤ 4) (g3 : G0 53 3 = nI (P 3)) : ∀ (n i : Nat) (G : Nat → Nat → Int32), (∀ p, p ≠ 56 → G p = G0 p) → (∀ t, t < i → G 56 t = nI (wldN x t)) → i ≤ P 3 → P 3 < i + n → ∃ G', f_X12_layWorld_2 N n (Hp m G L T) (some 49) (nI x) (nI i) = some ((), Hp m G' L T) ∧ (∀ p, p ≠ 56 → G' p = G0 p) ∧ ∀ t, t < P 3 → G' 56 t = nI (wldN x t) := by
  intro n
  induction n with
  | zero => intro i G _ _ h1 h2; omega
  | succ n ih =>
    intro i G e1 e2 h1 h2
    rw [f_X12_layWorld_2]
    have e3 : G 53 3 = nI (P 3) := by rw [e1 53 (by decide)]; exact g3
    simp only [e3, gI_0, gI_2, gI_4, gI_9, gI_15, gI_21, gI_49, gP_0, gP_2, gP_4, gP_9, gP_15, gP_21, gP_49, gR_0, gR_2, gR_4, gR_9, gR_15, gR_21, gR_49, gL_53, gL_54, oPz_0, oPz_1, Option.bind_some, c10, c01, cm1, c00, if_true, if_false, ne_eq, not_true_eq_false, not_false_eq_true]
    by_cases hi : i = P 3
    · rw [if_pos (by rw [hi]; exact Int32.le_refl _)]
      exact ⟨G, rfl, e1, by rw [← hi]; exact e2⟩
    · rw [if_neg (nI_ge (show i < P 3 by omega) (by omega))]
      obtain ⟨G', r1, r2⟩ := ih (i + 1) (up2 G 56 i (nI (wldN x i))) (fun p hp => by rw [up2_ne hp]; exact e1 p hp) (fun t ht => by
        by_cases h : t = i
        · rw [h, up2_s]
        · rw [up2_o h]; exact e2 t (by omega)) (by omega) (by omega)
      refine ⟨G', ?_, r2⟩
      simp only [wld_bits hx (show i < 10 by omega), (gN_56 (show i < 4 by omega)).2, nI_1, gI_0, gI_2, gI_4, gI_9, gI_15, gI_21, gI_49, gP_0, gP_2, gP_4, gP_9, gP_15, gP_21, gP_49, gR_0, gR_2, gR_4, gR_9, gR_15, gR_21, gR_49, gL_53, gL_54, oPz_0, oPz_1, Option.bind_some, c10, c01, cm1, c00, if_true, if_false, ne_eq, not_true_eq_false, not_false_eq_true]
      exact r1
/-- what the reference has when it goes through the worlds -/
def MC (G0 : Nat → Nat → Int32) (P S : Nat → Nat) (q : Nat) (tv : Nat → Int32) : Prop := q < 8 ∧ MV G0 P S (P 4) ∧ (∃ w, MW G0 P w (P 0) (P 1) 1000) ∧ P 2 ≠ 0 ∧ P 4 ≤ 24 ∧ G0 53 4 = nI (P 4) ∧ ∀ d, d < P 4 → G0 52 (40 * q + d) = tv d ∧ -1 ≤ tv d
theorem M_layW {x D kp hf er : Nat} {w : Nat → Nat} {G0 G : Nat → Nat → Int32} (hN : 5000 ≤ N) (mv : MV G0 P S D) (mw : MW G0 P w kp hf er) (hx : x < 2 ^ 31) (e : ∀ p, p ≠ 56 → G p = G0 p) : ∃ G', f_X12_layWorld N (Hp m G L T) (some 49) (nI x) = some ((), Hp m G' L T) ∧ (∀ p, p ≠ 56 → G' p = G0 p) ∧ MW G' P (wldN x) kp hf er := by
  have h3 := mv.1
  obtain ⟨G', r1, r2, r3⟩ := M_layW_l (N := N) (m := m) (L := L) (T := T) hx h3 mv.2.2.2.2.1 N 0 G e (fun t ht => by omega) (by omega) (by omega)
  have r41 := r2 49 (by decide)
  refine ⟨G', r1, r2, fun t ht => ⟨r3 t ht, by have := wld_lt x t; omega⟩, ?_⟩
  rw [r41]
  exact mw.2
theorem M_world {x q : Nat} {tv : Nat → Int32} {G0 G : Nat → Nat → Int32} (hN : 5000 ≤ N) (mc : MC G0 P S q tv) (hx : x < 4096) (e : ∀ p, p ≠ 56 → G p = G0 p) : ∃ G', f_X12_layWorld N (Hp m G L T) (some 49) (nI x) = some ((), Hp m G' L T) ∧ (∀ p, p ≠ 56 → G' p = G0 p) ∧ MW G' P (wldN x) (P 0) (P 1) 1000 ∧ MV G' P S (P 4) ∧ f_X12_wrongDays N (Hp m G' L T) (some 49) (nI q) = some (nI (bitsN (wrg tv (shW P S x)) (P 4)), Hp m G' L T) := by
  obtain ⟨hq, mv, ⟨w, mw⟩, h2, h4, g4, gt⟩ := mc
  obtain ⟨G', r1, r2, r3⟩ := M_layW (N := N) (m := m) (L := L) (T := T) hN mv mw (show x < 2 ^ 31 by omega) e
  have mv' : MV G' P S (P 4) := mv.same (r2 53 (by decide))
  refine ⟨G', r1, r2, r3, mv', ?_⟩
  exact M_wrong hN hq mv' r3 h2 h4 (Nat.le_refl _) (by rw [r2 53 (by decide)]; exact g4) (fun d hd => by rw [r2 52 (by decide)]; exact gt d hd)
theorem M_worlds {G : Nat → Nat → Int32} (h3 : P 3 ≤ 4) (g3 : G 53 3 = nI (P 3)) : f_X12_worlds N (Hp m G L T) (some 49) = some (nI (8 ^ P 3), Hp m G L T) := by
  simp only [f_X12_worlds, f_X12_worlds_0, g3, wld_e h3, gI_0, gI_2, gI_4, gI_9, gI_15, gI_21, gI_49, gP_0, gP_2, gP_4, gP_9, gP_15, gP_21, gP_49, gR_0, gR_2, gR_4, gR_9, gR_15, gR_21, gR_49, gL_53, gL_54, oPz_0, oPz_1, Option.bind_some, c10, c01, cm1, c00, if_true, if_false, ne_eq, not_true_eq_false, not_false_eq_true]
theorem wrg0 {tv : Nat → Int32} {P : Nat → Nat} {x : Nat} (h4 : P 4 ≤ 24) : nI (bitsN (wrg tv (shW P S x)) (P 4)) = 0 ↔ fitB tv P S x = true := by
  have h1 := bitsN_lt (wrg tv (shW P S x)) (P 4)
  have h2 : 2 ^ P 4 ≤ 2 ^ 24 := Nat.pow_le_pow_right (by decide) h4
  unfold fitB
  rw [decide_eq_true_iff]
  exact nI_eq (b := 0) (by omega) (by decide)
end FTs
-- FITS
section FIs
variable {N m : Nat} {F : Nat → Nat → Int32} {L : Nat → Nat → Option Nat} {T : Nat → Nat} {P S : Nat → Nat}
theorem C_many_l (hN : 5000 ≤ N) (pv : PV P) (tv : TV F P S (P 4)) : ∀ (n x : Nat), x ≤ 8 ^ P 3 → 8 ^ P 3 < x + n → f_X10_howManyFit_4 N n (Hp m F L T) (some 15) (nI (fa_cnt (fitB (F 19) P S) x)) (nI x) = some (nI (fa_cnt (fitB (F 19) P S) (8 ^ P 3)), Hp m F L T) := by
  have hp := p8_le pv.2.2.2.1
  intro n
  induction n with
  | zero => intro x h1 h2; omega
  | succ n ih =>
    intro x h1 h2
    rw [f_X10_howManyFit_4]
    simp only [tv.2.2.2.1, gI_0, gI_2, gI_4, gI_9, gI_15, gI_21, gI_49, gP_0, gP_2, gP_4, gP_9, gP_15, gP_21, gP_49, gR_0, gR_2, gR_4, gR_9, gR_15, gR_21, gR_49, gL_53, gL_54, oPz_0, oPz_1, Option.bind_some, c10, c01, cm1, c00, if_true, if_false, ne_eq, not_true_eq_false, not_false_eq_true]
    by_cases hx : x = 8 ^ P 3
    · rw [if_pos (by rw [hx]; exact Int32.le_refl _), hx]
    · rw [if_neg (nI_ge (show x < 8 ^ P 3 by omega) (by omega))]
      have ih' := ih (x + 1) (by omega) (by omega)
      simp only [C_fit hN pv tv (Nat.le_refl _) (show x < 4096 by omega), f_X10_howManyFit_23, bB_0, nI_1, gI_0, gI_2, gI_4, gI_9, gI_15, gI_21, gI_49, gP_0, gP_2, gP_4, gP_9, gP_15, gP_21, gP_49, gR_0, gR_2, gR_4, gR_9, gR_15, gR_21, gR_49, gL_53, gL_54, oPz_0, oPz_1, Option.bind_some, c10, c01, cm1, c00, if_true, if_false, ne_eq, not_true_eq_false, not_false_eq_true]
      by_cases hf : fitB (F 19) P S x = true
      · rw [fa_cnt_yes hf] at ih'
        rw [if_neg (by rw [hf]; decide)]
        exact ih'
      · rw [fa_cnt_no ((Bool.not_eq_true _).mp hf)] at ih'
        rw [if_pos ((Bool.not_eq_true _).mp hf)]
        exact ih'
theorem C_with_l {t w : Nat} (hN : 5000 ≤ N) (pv : PV P) (tv : TV F P S (P 4)) (ht : t < 4) (hw : w ≤ 7) : ∀ (n x : Nat), x ≤ 8 ^ P 3 → 8 ^ P 3 < x + n → f_X10_howManyFitWith_5 N n (Hp m F L T) (some 15) (nI t) (nI w) (nI (fa_cnt (fun y => decide (wldN y t = w) && fitB (F 19) P S y) x)) (nI x) = some (nI (fa_cnt (fun y => decide (wldN y t = w) && fitB (F 19) P S y) (8 ^ P 3)), Hp m F L T) := by
  have hp := p8_le pv.2.2.2.1
  intro n
  induction n with
  | zero => intro x h1 h2; omega
  | succ n ih =>
    intro x h1 h2
    rw [f_X10_howManyFitWith_5]
    simp only [tv.2.2.2.1, gI_0, gI_2, gI_4, gI_9, gI_15, gI_21, gI_49, gP_0, gP_2, gP_4, gP_9, gP_15, gP_21, gP_49, gR_0, gR_2, gR_4, gR_9, gR_15, gR_21, gR_49, gL_53, gL_54, oPz_0, oPz_1, Option.bind_some, c10, c01, cm1, c00, if_true, if_false, ne_eq, not_true_eq_false, not_false_eq_true]
    by_cases hx : x = 8 ^ P 3
    · rw [if_pos (by rw [hx]; exact Int32.le_refl _), hx]
    · rw [if_neg (nI_ge (show x < 8 ^ P 3 by omega) (by omega))]
      have ih' := ih (x + 1) (by omega) (by omega)
      have hlt := wld_lt x t
      simp only [C_wIn (show x < 4096 by omega) (show t < 10 by omega), nI_eq (show wldN x t < 2 ^ 31 by omega) (show w < 2 ^ 31 by omega), C_fit hN pv tv (Nat.le_refl _) (show x < 4096 by omega), f_X10_howManyFitWith_36, bB_0, nI_1, gI_0, gI_2, gI_4, gI_9, gI_15, gI_21, gI_49, gP_0, gP_2, gP_4, gP_9, gP_15, gP_21, gP_49, gR_0, gR_2, gR_4, gR_9, gR_15, gR_21, gR_49, gL_53, gL_54, oPz_0, oPz_1, Option.bind_some, c10, c01, cm1, c00, if_true, if_false, ne_eq, not_true_eq_false, not_false_eq_true]
      by_cases hw2 : wldN x t = w
      · rw [if_pos hw2]
        by_cases hf : fitB (F 19) P S x = true
        · rw [fa_cnt_yes (by rw [decide_eq_true hw2, hf]; rfl)] at ih'
          rw [if_neg (by rw [hf]; decide)]
          exact ih'
        · rw [fa_cnt_no (by rw [(Bool.not_eq_true _).mp hf, Bool.and_false])] at ih'
          rw [if_pos ((Bool.not_eq_true _).mp hf)]
          exact ih'
      · rw [fa_cnt_no (by rw [decide_eq_false hw2, Bool.false_and])] at ih'
        rw [if_neg hw2]
        exact ih'
theorem M_fits_l {q : Nat} {tv : Nat → Int32} {G0 : Nat → Nat → Int32} {x2 x3 : Int32} {c : Nat → Bool} (hN : 5000 ≤ N) (mc : MC G0 P S q tv) (hc : (x2 < 0 ∧ ∀ x, c x = true) ∨ ∃ t w, t < P 3 ∧ w ≤ 7 ∧ x2 = nI t ∧ x3 = nI w ∧ ∀ x, c x = decide (wldN x t = w)) : ∀ (n x : Nat) (G : Nat → Nat → Int32), (∀ p, p ≠ 56 → G p = G0 p) → x ≤ 8 ^ P 3 → 8 ^ P 3 < x + n → ∃ G', f_X12_fits_63 N n (Hp m G L T) (some 49) (nI q) x2 x3 (nI (fa_cnt (fun y => c y && fitB tv P S y) x)) (nI x) = some (nI (fa_cnt (fun y => c y && fitB tv P S y) (8 ^ P 3)), Hp m G' L T) ∧ ∀ p, p ≠ 56 → G' p = G0 p := by
  have h3 := mc.2.1.1
  have hp := p8_le h3
  have h4 := mc.2.2.2.2.1
  intro n
  induction n with
  | zero => intro x G _ h1 h2; omega
  | succ n ih =>
    intro x G e h1 h2
    rw [f_X12_fits_63]
    have g3 : G 53 3 = nI (P 3) := by rw [e 53 (by decide)]; exact mc.2.1.2.2.2.2.1
    simp only [M_worlds h3 g3, gI_0, gI_2, gI_4, gI_9, gI_15, gI_21, gI_49, gP_0, gP_2, gP_4, gP_9, gP_15, gP_21, gP_49, gR_0, gR_2, gR_4, gR_9, gR_15, gR_21, gR_49, gL_53, gL_54, oPz_0, oPz_1, Option.bind_some, c10, c01, cm1, c00, if_true, if_false, ne_eq, not_true_eq_false, not_false_eq_true]
    by_cases hx : x = 8 ^ P 3
    · rw [if_pos (by rw [hx]; exact Int32.le_refl _), hx]
      exact ⟨G, rfl, e⟩
    · rw [if_neg (nI_ge (show x < 8 ^ P 3 by omega) (by omega))]
      obtain ⟨G1, a1, a2, a3, a4, a5⟩ := M_world (N := N) (m := m) (L := L) (T := T) hN mc (show x < 4096 by omega) e
      obtain ⟨G', r1, r2⟩ := ih (x + 1) G1 a2 (by omega) (by omega)
      refine ⟨G', ?_, r2⟩
      have yes : f_X12_fits_94 N (f_X12_fits_63 N n) (Hp m G1 L T) (some 49) (nI q) x2 x3 (nI x) (nI (fa_cnt (fun y => c y && fitB tv P S y) x)) = f_X12_fits_63 N n (Hp m G1 L T) (some 49) (nI q) x2 x3 (nI (fa_cnt (fun y => c y && fitB tv P S y) x + if fitB tv P S x = true then 1 else 0)) (nI (x + 1)) := by
        simp only [f_X12_fits_94, f_X12_fits_106, f_X12_fits_107, a5, wrg0 h4, nI_1, gI_0, gI_2, gI_4, gI_9, gI_15, gI_21, gI_49, gP_0, gP_2, gP_4, gP_9, gP_15, gP_21, gP_49, gR_0, gR_2, gR_4, gR_9, gR_15, gR_21, gR_49, gL_53, gL_54, oPz_0, oPz_1, Option.bind_some, c10, c01, cm1, c00, if_true, if_false, ne_eq, not_true_eq_false, not_false_eq_true]
        split
        · rfl
        · rw [Int32.add_zero]; rfl
      rcases hc with ⟨c1, c2⟩ | ⟨t, w, c1, c2, c3, c4, c5⟩
      · simp only [a1, c1, yes, gI_0, gI_2, gI_4, gI_9, gI_15, gI_21, gI_49, gP_0, gP_2, gP_4, gP_9, gP_15, gP_21, gP_49, gR_0, gR_2, gR_4, gR_9, gR_15, gR_21, gR_49, gL_53, gL_54, oPz_0, oPz_1, Option.bind_some, c10, c01, cm1, c00, if_true, if_false, ne_eq, not_true_eq_false, not_false_eq_true]
        by_cases hf : fitB tv P S x = true
        · rw [fa_cnt_yes (by rw [c2, hf]; rfl)] at r1
          rw [if_pos hf]
          exact r1
        · rw [fa_cnt_no (by rw [(Bool.not_eq_true _).mp hf, Bool.and_false])] at r1
          rw [if_neg hf]
          exact r1
      · have hlt := wld_lt x t
        have ew : oA (Hp m G1 L T) (some 56) 0 x2 = some (nI (wldN x t)) := by rw [c3, (gN_56 (show t < 4 by omega)).1, (a3.1 t c1).1]
        have n0 : ¬ x2 < 0 := by rw [c3]; exact nI_pos (by omega)
        have ex : nI (wldN x t) = x3 ↔ wldN x t = w := by rw [c4]; exact nI_eq (by omega) (by omega)
        simp only [a1, n0, ew, ex, yes, f_X12_fits_106, f_X12_fits_107, nI_1, Int32.add_zero, gI_0, gI_2, gI_4, gI_9, gI_15, gI_21, gI_49, gP_0, gP_2, gP_4, gP_9, gP_15, gP_21, gP_49, gR_0, gR_2, gR_4, gR_9, gR_15, gR_21, gR_49, gL_53, gL_54, oPz_0, oPz_1, Option.bind_some, c10, c01, cm1, c00, if_true, if_false, ne_eq, not_true_eq_false, not_false_eq_true]
        by_cases hw : wldN x t = w
        · rw [if_pos hw]
          by_cases hf : fitB tv P S x = true
          · rw [fa_cnt_yes (by rw [c5, decide_eq_true hw, hf]; rfl)] at r1
            rw [if_pos hf]
            exact r1
          · rw [fa_cnt_no (by rw [(Bool.not_eq_true _).mp hf, Bool.and_false])] at r1
            rw [if_neg hf]
            exact r1
        · rw [if_neg hw]
          rw [fa_cnt_no (by rw [c5, decide_eq_false hw, Bool.false_and])] at r1
          exact r1
end FIs
/-- after a telling: only scratch has changed -/
theorem Rel.told {m : Nat} {F F1 G : Nat → Nat → Int32} {L : Nat → Nat → Option Nat} {T : Nat → Nat} (R : Rel m F L T) (e1 : ∀ p, p ≠ 15 → p ≠ 16 → p ≠ 17 → p ≠ 18 → p ≠ 19 → F1 p = F p) (e2 : ∀ k, k < 4 → F1 15 k = F 15 k) (h : Lay (up2 (up2 (up2 F1 0 8 0) 49 0 0) 49 1 0) G) : Rel m G L T := by
  obtain ⟨P, pv, pm, pc, sr⟩ := R.2.2.1
  have gp : ∀ p, p ≠ 56 → p ≠ 49 → p ≠ 0 → p ≠ 15 → p ≠ 16 → p ≠ 17 → p ≠ 18 → p ≠ 19 → G p = F p := fun p p1 p2 p3 p4 p5 p6 p7 p8 => by rw [h.1 p p1 p2, up2_ne p2, up2_ne p2, up2_ne p3, e1 p p4 p5 p6 p7 p8]
  have g11 : ∀ k, k < 4 → G 15 k = F 15 k := fun k hk => by rw [h.1 15 (by decide) (by decide), up2_ne (by decide), up2_ne (by decide), up2_ne (by decide), e2 k hk]
  have gk : ∀ k, k ≠ 18 → k ≠ 19 → k ≠ 20 → k ≠ 0 → k ≠ 1 → G 49 k = F 49 k := fun k k1 k2 k3 k4 k5 => by rw [h.2 k k1 k2 k3, up2_o k5, up2_o k4, up2_ne (by decide), e1 49 (by decide) (by decide) (by decide) (by decide) (by decide)]
  refine R.scr3 pv pm pc ?_ (fun p hp => gp p (by omega) (by omega) (by omega) (by omega) (by omega) (by omega) (by omega) (by omega)) (gp 4 (by decide) (by decide) (by decide) (by decide) (by decide) (by decide) (by decide) (by decide)) (fun j _ => by rw [gp 8 (by decide) (by decide) (by decide) (by decide) (by decide) (by decide) (by decide) (by decide)]) (fun i _ => by rw [gp 53 (by decide) (by decide) (by decide) (by decide) (by decide) (by decide) (by decide) (by decide)]) ?_ ?_ (by rw [gp 2 (by decide) (by decide) (by decide) (by decide) (by decide) (by decide) (by decide) (by decide)]) (gk 8 (by decide) (by decide) (by decide) (by decide) (by decide)) (by rw [gp 21 (by decide) (by decide) (by decide) (by decide) (by decide) (by decide) (by decide) (by decide)]) (gk 30 (by decide) (by decide) (by decide) (by decide) (by decide))
  · unfold SoonR
    rw [g11 0 (by omega), g11 1 (by omega), g11 2 (by omega), g11 3 (by omega)]
    exact sr
  · rw [gk 9 (by decide) (by decide) (by decide) (by decide) (by decide), h.1 0 (by decide) (by decide), up2_ne (by decide), up2_ne (by decide), up2_o (by decide), e1 0 (by decide) (by decide) (by decide) (by decide) (by decide)]
    exact R.2.2.2.2.1
  · rw [h.1 0 (by decide) (by decide), up2_ne (by decide), up2_ne (by decide), up2_s, h.2 1 (by decide) (by decide) (by decide), up2_s]
theorem MC_of {m : Nat} {F F1 G : Nat → Nat → Int32} {P : Nat → Nat} {q : Nat} (pv : PV P) (pm : PM (F 53) P) (hq : q < 8) (hp2 : P 2 ≠ 0) (ht : ∀ d, d < P 4 → -1 ≤ F (24 + 2 * q) d ∧ F 52 (40 * q + d) = F (24 + 2 * q) d) (e1 : ∀ p, p ≠ 15 → p ≠ 16 → p ≠ 17 → p ≠ 18 → p ≠ 19 → F1 p = F p) (h : Lay (up2 (up2 (up2 F1 0 8 0) 49 0 0) 49 1 0) G) (mw : MW G P (truN P) (P 0) (P 1) 1000) : MC G P (setN P) q (F (24 + 2 * q)) := by
  have gp : ∀ p, p ≠ 56 → p ≠ 49 → p ≠ 0 → p ≠ 15 → p ≠ 16 → p ≠ 17 → p ≠ 18 → p ≠ 19 → G p = F p := fun p p1 p2 p3 p4 p5 p6 p7 p8 => by rw [h.1 p p1 p2, up2_ne p2, up2_ne p2, up2_ne p3, e1 p p4 p5 p6 p7 p8]
  have g45 := gp 53 (by decide) (by decide) (by decide) (by decide) (by decide) (by decide) (by decide) (by decide)
  exact ⟨hq, (MV_of pv pm).same g45, ⟨_, mw⟩, hp2, pv.2.2.2.2.1, by rw [g45]; exact pm.1 4 (by omega), fun d hd => by rw [gp 52 (by decide) (by decide) (by decide) (by decide) (by decide) (by decide) (by decide) (by decide)]; exact ⟨(ht d hd).2, (ht d hd).1⟩⟩
theorem X12_in07 {N : Nat} {A : hP} {b : Int32} : f_X12_in N A b.toInt64 (0 : Int64) (7 : Int64) = some (bI ((0 : Int32) ≤ b ∧ b ≤ 7), A) := X12_in32 N A b 0 7
theorem X12_inm {N : Nat} {A : hP} {b c : Int32} : f_X12_in N A b.toInt64 (-1 : Int64) c.toInt64 = some (bI ((-1 : Int32) ≤ b ∧ b ≤ c), A) := X12_in32 N A b (-1) c
theorem inm_iff {b : Int32} {n : Nat} (hn : n < 100) : ((-1 : Int32) ≤ b ∧ b ≤ nI n - 1) ↔ (b = -1 ∨ (¬ b < 0 ∧ ¬ nI n ≤ b)) := by
  rw [fa_le, fa_le, fa_eq, fa_lt, fa_le, nI_toInt (by omega), show nI n - 1 = nI n - nI 1 from rfl, pk_sub_toInt (by omega) (by omega)]
  have e1 : (-1 : Int32).toInt = -1 := by decide
  have e0 : (0 : Int32).toInt = 0 := by decide
  rw [e1, e0]
  omega
def fitsOk (n : Nat) (b c : Int32) : Bool := decide ((b = -1 ∨ (¬ b < 0 ∧ ¬ nI n ≤ b)) ∧ (0 ≤ c ∧ c ≤ 7))
theorem X11_fits_e {N m : Nat} {F : Nat → Nat → Int32} {L : Nat → Nat → Option Nat} {T P : Nat → Nat} (h3 : P 3 ≤ 4) (c4 : F 4 4 = nI (P 3)) (hl : ∀ i, i < P 3 → ∃ t, L 7 i = some t) (a b c : Int32) : f_X11_fits N (Hp m F L T) (some 0) a b c = f_X11_fits_57 N (Hp m F L T) (some 0) a b c (if b = -1 then 1 else 0) (some 0) a (bB (!fitsOk (P 3) b c)) := by
  have tail : ∀ (x4 : Int32), f_X11_fits_33 N (Hp m F L T) (some 0) a b c x4 0 = f_X11_fits_57 N (Hp m F L T) (some 0) a b c x4 (some 0) a (if 0 ≤ c ∧ c ≤ 7 then 0 else 1) := by
    intro x4
    simp only [f_X11_fits_33, f_X11_fits_52, c00, if_true]
    by_cases h1 : c < 0
    · rw [if_pos h1, if_neg (fun q => absurd q.1 (Int32.not_le.mpr h1))]
    · rw [if_neg h1]
      by_cases h2 : c ≤ 7
      · rw [if_pos h2, if_pos ⟨Int32.not_lt.mp h1, h2⟩]
      · rw [if_neg h2, if_neg (fun q => h2 q.2)]
  by_cases hb : b = -1
  · have hok : fitsOk (P 3) b c = decide (0 ≤ c ∧ c ≤ 7) := by
      unfold fitsOk
      simp [hb]
    rw [hok, if_pos hb]
    simp only [f_X11_fits, f_X11_fits_0, hb, f_X11_fits_10, f_X11_fits_32, if_true, c10, if_false]
    rw [← hb, tail]
    by_cases hc : 0 ≤ c ∧ c ≤ 7
    · rw [if_pos hc, decide_eq_true hc]; rfl
    · rw [if_neg hc, decide_eq_false hc]; rfl
  · rw [if_neg hb]
    by_cases hr : b < 0 ∨ nI (P 3) ≤ b
    · have hok : fitsOk (P 3) b c = false := by
        unfold fitsOk
        apply decide_eq_false
        rintro ⟨q | q, -⟩
        · exact hb q
        · rcases hr with r | r
          · exact q.1 r
          · exact q.2 r
      rw [hok]
      simp only [f_X11_fits, f_X11_fits_0, hb, f_X11_fits_10, f_X11_fits_33, f_X11_fits_52, C_thing_n c4 hr, gI_0, gI_2, gI_4, gI_9, gI_15, gI_21, gI_49, gP_0, gP_2, gP_4, gP_9, gP_15, gP_21, gP_49, gR_0, gR_2, gR_4, gR_9, gR_15, gR_21, gR_49, gL_53, gL_54, oPz_0, oPz_1, Option.bind_some, c10, c01, cm1, c00, if_true, if_false, ne_eq, not_true_eq_false, not_false_eq_true]
      rfl
    · rcases pk_ix b (n := P 3) (by omega) with h | h | ⟨i, hi, hbi⟩
      · exact absurd (Or.inl h) hr
      · exact absurd (Or.inr h) hr
      · obtain ⟨t, ht⟩ := hl i hi
        have hok : fitsOk (P 3) b c = decide (0 ≤ c ∧ c ≤ 7) := by
          unfold fitsOk
          have : (b = -1 ∨ (¬ b < 0 ∧ ¬ nI (P 3) ≤ b)) := Or.inr ⟨fun q => hr (Or.inl q), fun q => hr (Or.inr q)⟩
          simp only [this, true_and]
        rw [hok]
        have e : f_X2_thingAt N (Hp m F L T) (some 4) b = some (some t, Hp m F L T) := by rw [hbi, C_thing_y h3 c4 hi, ht]
        simp only [f_X11_fits, f_X11_fits_0, hb, f_X11_fits_10, f_X11_fits_32, e, reduceCtorEq, tail, gI_0, gI_2, gI_4, gI_9, gI_15, gI_21, gI_49, gP_0, gP_2, gP_4, gP_9, gP_15, gP_21, gP_49, gR_0, gR_2, gR_4, gR_9, gR_15, gR_21, gR_49, gL_53, gL_54, oPz_0, oPz_1, Option.bind_some, c10, c01, cm1, c00, if_true, if_false, ne_eq, not_true_eq_false, not_false_eq_true]
        by_cases hc : 0 ≤ c ∧ c ≤ 7
        · rw [if_pos hc, decide_eq_true hc]; rfl
        · rw [if_neg hc, decide_eq_false hc]; rfl
theorem X12_fits_e {N m : Nat} {F1 : Nat → Nat → Int32} {L : Nat → Nat → Option Nat} {T P : Nat → Nat} (h3 : P 3 ≤ 4) (m3 : F1 53 3 = nI (P 3)) (a b c : Int32) : f_X12_fits N (Hp m F1 L T) (some 49) a b c = f_X12_fits_44 N (Hp m (up2 F1 49 0 0) L T) (some 49) a b c (some 49) a (bB (fitsOk (P 3) b c)) := by
  have e3 : up2 F1 49 0 0 53 3 = nI (P 3) := by simp (disch := omega) only [up2_ne, up2_o, up2_s]; exact m3
  simp only [f_X12_fits, f_X12_fits_0, f_X12_fits_43, e3, X12_inm, X12_in07, gI_0, gI_2, gI_4, gI_9, gI_15, gI_21, gI_49, gP_0, gP_2, gP_4, gP_9, gP_15, gP_21, gP_49, gR_0, gR_2, gR_4, gR_9, gR_15, gR_21, gR_49, gL_53, gL_54, oPz_0, oPz_1, Option.bind_some, c10, c01, cm1, c00, if_true, if_false, ne_eq, not_true_eq_false, not_false_eq_true]
  unfold fitsOk
  by_cases h1 : (-1 : Int32) ≤ b ∧ b ≤ nI (P 3) - 1
  · have h1' := (inm_iff (show P 3 < 100 by omega)).mp h1
    rw [bI_t h1, if_neg (by decide)]
    by_cases h2 : 0 ≤ c ∧ c ≤ 7
    · rw [bI_t h2, if_neg (by decide), decide_eq_true ⟨h1', h2⟩]; rfl
    · rw [bI_f h2, if_pos rfl, decide_eq_false (fun q => h2 q.2)]; rfl
  · rw [bI_f h1, if_pos rfl, decide_eq_false (fun q => h1 ((inm_iff (show P 3 < 100 by omega)).mpr q.1))]; rfl
theorem o_fits (N : Nat) (hN : 5000 ≤ N) (m : Nat) (F : Nat → Nat → Int32) (L : Nat → Nat → Option Nat) (T : Nat → Nat) (hm : m ≤ 3000) (R : Rel m F L T) (a b c : Int32) : OpOk (fun A => f_X11_fits N A (some 0) a b c) (fun A => f_X12_fits N A (some 49) a b c) m F L T := by
  obtain ⟨P, pv, pm, pc, sr⟩ := R.2.2.1
  have v3 : P 3 ≤ 4 := pv.2.2.2.1
  have v4 : P 4 ≤ 24 := pv.2.2.2.2.1
  have hp8 := p8_le v3
  have c4 : F 4 4 = nI (P 3) := pc.2.2.2.2.1
  have c5 : F 4 5 = nI (P 4) := pc.2.2.2.2.2.1
  have hl : ∀ i, i < P 3 → ∃ t, L 7 i = some t := fun i hi => by
    obtain ⟨t, q1, -⟩ := pc.2.2.2.2.2.2.2.1 i hi
    exact ⟨t, q1⟩
  have ex := X11_fits_e (N := N) (m := m) (T := T) v3 c4 hl a b c
  rcases tell hN R pv pm pc a (fitsOk (P 3) b c) with ⟨v, F1, F2, h1, h2, h3, h4, h5, h6⟩ | ⟨hok, hp2, q, hq, rfl, ht, h1, h2⟩
  · refine ⟨v, m, F1, L, T, F2, ?_, ?_, h5, by omega⟩
    · simp only [ex, f_X11_fits_57, h1, h2, gI_0, gI_2, gI_4, gI_9, gI_15, gI_21, gI_49, gP_0, gP_2, gP_4, gP_9, gP_15, gP_21, gP_49, gR_0, gR_2, gR_4, gR_9, gR_15, gR_21, gR_49, gL_53, gL_54, oPz_0, oPz_1, Option.bind_some, c10, c01, cm1, c00, if_true, if_false, ne_eq, not_true_eq_false, not_false_eq_true]
    · have e3 : F1 53 3 = nI (P 3) := by rw [h6]; exact pm.1 3 (by omega)
      simp only [X12_fits_e v3 e3, f_X12_fits_44, h4, h3, gI_0, gI_2, gI_4, gI_9, gI_15, gI_21, gI_49, gP_0, gP_2, gP_4, gP_9, gP_15, gP_21, gP_49, gR_0, gR_2, gR_4, gR_9, gR_15, gR_21, gR_49, gL_53, gL_54, oPz_0, oPz_1, Option.bind_some, c10, c01, cm1, c00, if_true, if_false, ne_eq, not_true_eq_false, not_false_eq_true]
  rw [hok] at ex
  have ex' : f_X11_fits N (Hp m F L T) (some 0) (nI q) b c = f_X11_fits_57 N (Hp m F L T) (some 0) (nI q) b c (if b = -1 then 1 else 0) (some 0) (nI q) 0 := ex
  have hok' := of_decide_eq_true hok
  obtain ⟨F1, b1, b2, b3, b4, b5⟩ := C_begin (N := N) hN hq (CV_of pv pc) v4 c5
  obtain ⟨G, g1, g2, g3⟩ := h2 (up2 F1 0 8 0) (by rw [up2_ne (by decide)]; exact b4 50 (by decide) (by decide) (by decide) (by decide) (by decide)) (by rw [up2_ne (by decide)]; exact b4 51 (by decide) (by decide) (by decide) (by decide) (by decide)) (by rw [up2_ne (by decide)]; exact b4 52 (by decide) (by decide) (by decide) (by decide) (by decide)) (fun i _ => by rw [up2_ne (by decide), b4 53 (by decide) (by decide) (by decide) (by decide) (by decide)])
  have mc := MC_of (m := m) pv pm hq hp2 ht b4 g2 g3
  have hfit : ∀ x, fitB (F1 19) P (setN P) x = fitB (F (24 + 2 * q)) P (setN P) x := fun x => by
    unfold fitB
    rw [bitsN_c (q := wrg (F (24 + 2 * q)) (shW P (setN P) x)) (fun t htt => by unfold wrg; rw [b3 t htt])]
  have e3 : up2 F1 0 8 0 53 3 = nI (P 3) := by rw [up2_ne (by decide), b4 53 (by decide) (by decide) (by decide) (by decide) (by decide)]; exact pm.1 3 (by omega)
  have fin : ∀ (cf : Nat → Bool) (v : Nat), v = fa_cnt (fun y => cf y && fitB (F (24 + 2 * q)) P (setN P) y) (8 ^ P 3) → ((b < 0 ∧ ∀ x, cf x = true) ∨ ∃ t w, t < P 3 ∧ w ≤ 7 ∧ b = nI t ∧ c = nI w ∧ ∀ x, cf x = decide (wldN x t = w)) → f_X11_fits N (Hp m F L T) (some 0) (nI q) b c = some (nI v, Hp m (up2 F1 0 8 0) L T) → OpOk (fun A => f_X11_fits N A (some 0) (nI q) b c) (fun A => f_X12_fits N A (some 49) (nI q) b c) m F L T := by
    intro cf v hv hc hx
    obtain ⟨G', r1, r2⟩ := M_fits_l (N := N) (m := m) (L := L) (T := T) hN mc hc N 0 G (fun _ _ => rfl) (Nat.zero_le _) (by omega)
    have r1' : f_X12_fits_63 N N (Hp m G L T) (some 49) (nI q) b c 0 0 = some (nI v, Hp m G' L T) := by rw [hv]; exact r1
    refine ⟨nI v, m, up2 F1 0 8 0, L, T, G', hx, ?_, R.told b4 b5 ⟨fun p p1 p2 => by rw [r2 p p1]; exact g2.1 p p1 p2, fun k k1 k2 k3 => by rw [r2 49 (by decide)]; exact g2.2 k k1 k2 k3⟩, by omega⟩
    simp only [X12_fits_e v3 e3, hok, bB_t, f_X12_fits_44, g1, show ((0 : Int32) ≤ 0) = True from eq_true (by decide), r1', gI_0, gI_2, gI_4, gI_9, gI_15, gI_21, gI_49, gP_0, gP_2, gP_4, gP_9, gP_15, gP_21, gP_49, gR_0, gR_2, gR_4, gR_9, gR_15, gR_21, gR_49, gL_53, gL_54, oPz_0, oPz_1, Option.bind_some, c10, c01, cm1, c00, if_true, if_false, ne_eq, not_true_eq_false, not_false_eq_true]
  by_cases hb : b = -1
  · refine fin (fun _ => true) (fa_cnt (fitB (F1 19) P (setN P)) (8 ^ P 3)) (fa_cnt_cong (fun k _ => by rw [hfit, Bool.true_and])) (Or.inl ⟨by rw [hb]; decide, fun _ => rfl⟩) ?_
    have r := C_many_l (N := N) (m := m) (L := L) (T := T) hN pv b2 N 0 (Nat.zero_le _) (by omega)
    have r' : f_X10_howManyFit_4 N N (Hp m F1 L T) (some 15) 0 0 = some (nI (fa_cnt (fitB (F1 19) P (setN P)) (8 ^ P 3)), Hp m F1 L T) := r
    rw [ex', if_pos hb]
    simp only [f_X11_fits_57, f_X11_fits_115, h1, gN_1 hq, gR_r hq, b1, f_X10_howManyFit, f_X10_howManyFit_0, r', f_X11_passed, f_X11_passed_0, gI_0, gI_2, gI_4, gI_9, gI_15, gI_21, gI_49, gP_0, gP_2, gP_4, gP_9, gP_15, gP_21, gP_49, gR_0, gR_2, gR_4, gR_9, gR_15, gR_21, gR_49, gL_53, gL_54, oPz_0, oPz_1, Option.bind_some, c10, c01, cm1, c00, if_true, if_false, ne_eq, not_true_eq_false, not_false_eq_true]
  · have hb' : ¬ b < 0 ∧ ¬ nI (P 3) ≤ b := by
      rcases hok'.1 with h | h
      · exact absurd h hb
      · exact h
    rcases pk_ix b (n := P 3) (by omega) with h | h | ⟨t, htt, rfl⟩
    · exact absurd h hb'.1
    · exact absurd h hb'.2
    obtain ⟨w, hw, rfl⟩ := nI_of2 (M := 7) (n := 7) (by decide) (Int32.not_lt.mpr hok'.2.1) hok'.2.2
    refine fin (fun x => decide (wldN x t = w)) (fa_cnt (fun y => decide (wldN y t = w) && fitB (F1 19) P (setN P) y) (8 ^ P 3)) (fa_cnt_cong (fun k _ => by rw [hfit])) (Or.inr ⟨t, w, htt, hw, rfl, rfl, fun _ => rfl⟩) ?_
    have r := C_with_l (N := N) (m := m) (L := L) (T := T) hN pv b2 (show t < 4 by omega) hw N 0 (Nat.zero_le _) (by omega)
    have r' : f_X10_howManyFitWith_5 N N (Hp m F1 L T) (some 15) (nI t) (nI w) 0 0 = some (nI (fa_cnt (fun y => decide (wldN y t = w) && fitB (F1 19) P (setN P) y) (8 ^ P 3)), Hp m F1 L T) := r
    rw [ex', if_neg hb]
    simp only [f_X11_fits_57, f_X11_fits_115, h1, gN_1 hq, gR_r hq, b1, f_X10_howManyFitWith, f_X10_howManyFitWith_0, r', f_X11_passed, f_X11_passed_0, gI_0, gI_2, gI_4, gI_9, gI_15, gI_21, gI_49, gP_0, gP_2, gP_4, gP_9, gP_15, gP_21, gP_49, gR_0, gR_2, gR_4, gR_9, gR_15, gR_21, gR_49, gL_53, gL_54, oPz_0, oPz_1, Option.bind_some, c10, c01, cm1, c00, if_true, if_false, ne_eq, not_true_eq_false, not_false_eq_true]
