def thOk (n : Nat) (b : Int32) : Bool := decide (¬ b < 0 ∧ ¬ nI n ≤ b)
theorem thOk_f {n : Nat} {b : Int32} (h : b < 0 ∨ nI n ≤ b) : thOk n b = false := by
  unfold thOk
  apply decide_eq_false
  rintro ⟨h1, h2⟩
  rcases h with h | h
  · exact h1 h
  · exact h2 h
theorem thOk_t {n i : Nat} (h : i < n) (hn : n < 2 ^ 31) : thOk n (nI i) = true := decide_eq_true ⟨nI_pos (by omega), nI_ge h hn⟩
theorem thOk_of {n : Nat} {b : Int32} (hn : n < 2 ^ 31) (h : thOk n b = true) : ∃ i, i < n ∧ b = nI i := by
  have h' := of_decide_eq_true h
  rcases pk_ix b hn with q | q | q
  · exact absurd q h'.1
  · exact absurd q h'.2
  · exact q
section OKs
variable {N m : Nat} {F : Nat → Nat → Int32} {L : Nat → Nat → Option Nat} {T : Nat → Nat} {P S : Nat → Nat}
theorem M_thing_b (h3 : P 3 ≤ 4) (h4 : F 53 3 = nI (P 3)) (b : Int32) : f_X12_isThing N (Hp m F L T) (some 49) b = some (bB (thOk (P 3) b), Hp m F L T) := by
  rcases pk_ix b (n := P 3) (by omega) with h | h | ⟨i, hi, rfl⟩
  · rw [M_thing_n h3 h4 (Or.inl h), thOk_f (Or.inl h)]; rfl
  · rw [M_thing_n h3 h4 (Or.inr h), thOk_f (Or.inr h)]; rfl
  · rw [M_thing_y h3 h4 hi, thOk_t hi (by omega)]; rfl
theorem M_day_b (h3 : P 4 ≤ 24) (h4 : F 53 4 = nI (P 4)) (b : Int32) : f_X12_isDay N (Hp m F L T) (some 49) b = some (bB (thOk (P 4) b), Hp m F L T) := by
  rcases pk_ix b (n := P 4) (by omega) with h | h | ⟨i, hi, rfl⟩
  · rw [M_day_n h3 h4 (Or.inl h), thOk_f (Or.inl h)]; rfl
  · rw [M_day_n h3 h4 (Or.inr h), thOk_f (Or.inr h)]; rfl
  · rw [M_day_y h3 h4 hi, thOk_t hi (by omega)]; rfl
theorem C_day_b (h3 : P 4 ≤ 24) (h4 : F 4 5 = nI (P 4)) (b : Int32) : f_X2_hasDay N (Hp m F L T) (some 4) b = some (bB (thOk (P 4) b), Hp m F L T) := by
  rcases pk_ix b (n := P 4) (by omega) with h | h | ⟨i, hi, rfl⟩
  · rw [C_day_n h4 (Or.inl h), thOk_f (Or.inl h)]; rfl
  · rw [C_day_n h4 (Or.inr h), thOk_f (Or.inr h)]; rfl
  · rw [C_day_y h3 h4 hi, thOk_t hi (by omega)]; rfl
theorem X11_sure_e (h3 : P 3 ≤ 4) (c4 : F 4 4 = nI (P 3)) (hl : ∀ i, i < P 3 → ∃ t, L 7 i = some t) (a b : Int32) : f_X11_sure N (Hp m F L T) (some 0) a b = f_X11_sure_18 N (Hp m F L T) (some 0) a b (some 0) a (bB (!thOk (P 3) b)) := by
  rcases pk_ix b (n := P 3) (by omega) with h | h | ⟨i, hi, rfl⟩
  · simp only [f_X11_sure, f_X11_sure_0, C_thing_n c4 (Or.inl h), thOk_f (Or.inl h), Bool.not_false, bB_t, gI_0, gI_2, gI_4, gI_9, gI_15, gI_21, gI_49, gP_0, gP_2, gP_4, gP_9, gP_15, gP_21, gP_49, gR_0, gR_2, gR_4, gR_9, gR_15, gR_21, gR_49, gL_53, gL_54, oPz_0, oPz_1, Option.bind_some, c10, c01, cm1, c00, if_true, if_false, ne_eq, not_true_eq_false, not_false_eq_true]
  · simp only [f_X11_sure, f_X11_sure_0, C_thing_n c4 (Or.inr h), thOk_f (Or.inr h), Bool.not_false, bB_t, gI_0, gI_2, gI_4, gI_9, gI_15, gI_21, gI_49, gP_0, gP_2, gP_4, gP_9, gP_15, gP_21, gP_49, gR_0, gR_2, gR_4, gR_9, gR_15, gR_21, gR_49, gL_53, gL_54, oPz_0, oPz_1, Option.bind_some, c10, c01, cm1, c00, if_true, if_false, ne_eq, not_true_eq_false, not_false_eq_true]
  · obtain ⟨t, ht⟩ := hl i hi
    simp only [f_X11_sure, f_X11_sure_0, C_thing_y h3 c4 hi, ht, reduceCtorEq, thOk_t hi (show P 3 < 2 ^ 31 by omega), Bool.not_true, bB_f, gI_0, gI_2, gI_4, gI_9, gI_15, gI_21, gI_49, gP_0, gP_2, gP_4, gP_9, gP_15, gP_21, gP_49, gR_0, gR_2, gR_4, gR_9, gR_15, gR_21, gR_49, gL_53, gL_54, oPz_0, oPz_1, Option.bind_some, c10, c01, cm1, c00, if_true, if_false, ne_eq, not_true_eq_false, not_false_eq_true]
theorem X11_gap_e (h4 : P 4 ≤ 24) (c5 : F 4 5 = nI (P 4)) (a b : Int32) : f_X11_gap N (Hp m F L T) (some 0) a b = f_X11_gap_18 N (Hp m F L T) (some 0) a b (some 0) a (bB (!thOk (P 4) b)) := by
  simp only [f_X11_gap, f_X11_gap_0, C_day_b h4 c5, bB_0, gI_0, gI_2, gI_4, gI_9, gI_15, gI_21, gI_49, gP_0, gP_2, gP_4, gP_9, gP_15, gP_21, gP_49, gR_0, gR_2, gR_4, gR_9, gR_15, gR_21, gR_49, gL_53, gL_54, oPz_0, oPz_1, Option.bind_some, c10, c01, cm1, c00, if_true, if_false, ne_eq, not_true_eq_false, not_false_eq_true]
  cases thOk (P 4) b <;> simp [bB]
end OKs
-- SURE
theorem pow2_inj {a b : Nat} (h : 2 ^ a = 2 ^ b) : a = b := by
  rcases Nat.lt_trichotomy a b with q | q | q
  · have := Nat.pow_lt_pow_right (a := 2) (by decide) q; omega
  · exact q
  · have := Nat.pow_lt_pow_right (a := 2) (by decide) q; omega
def oneR (s : Nat) : Nat → Int32
  | 0 => -1000000
  | i + 1 => if s = 2 ^ i then nI i else oneR s i
theorem oneR_no {s : Nat} : ∀ {i : Nat}, (∀ k, k < i → s ≠ 2 ^ k) → oneR s i = -1000000
  | 0, _ => rfl
  | i + 1, h => by rw [oneR, if_neg (h i (by omega)), oneR_no (fun k hk => h k (by omega))]
theorem oneR_yes {k : Nat} : ∀ {i : Nat}, k < i → oneR (2 ^ k) i = nI k
  | 0, h => by omega
  | i + 1, h => by
    rw [oneR]
    by_cases hk : k = i
    · rw [if_pos (by rw [hk]), hk]
    · rw [if_neg (fun q => hk (pow2_inj q)), oneR_yes (by omega)]
theorem bits_one {p : Nat → Bool} {v : Nat} (hv : v < 8) (h : ∀ u, u < 8 → p u = decide (u = v)) : bitsN p 8 = 2 ^ v := by
  apply Nat.eq_of_testBit_eq
  intro j
  rw [bitsN_tb, Nat.testBit_two_pow]
  by_cases hj : j < 8
  · rw [h j hj]
    by_cases hjv : j = v
    · simp [hjv, hv]
    · simp [hjv, hj, Ne.symm hjv]
  · have : v ≠ j := by omega
    simp [hj, this]
theorem bits_two {p : Nat → Bool} {u v : Nat} (hu : u < 8) (hv : v < 8) (huv : u ≠ v) (h1 : p u = true) (h2 : p v = true) (k : Nat) : bitsN p 8 ≠ 2 ^ k := by
  intro q
  have a := bitsN_tb p 8 u
  have b := bitsN_tb p 8 v
  rw [q, Nat.testBit_two_pow, h1] at a
  rw [q, Nat.testBit_two_pow, h2] at b
  simp [hu] at a
  simp [hv] at b
  omega
theorem bits_or {p r : Nat → Bool} {v n : Nat} (hv : v < n) (h : ∀ u, u < n → r u = (p u || decide (u = v))) : bitsN p n ||| 2 ^ v = bitsN r n := by
  apply Nat.eq_of_testBit_eq
  intro j
  rw [Nat.testBit_or, bitsN_tb, bitsN_tb, Nat.testBit_two_pow]
  by_cases hj : j < n
  · rw [h j hj]
    simp only [hj, decide_true, Bool.true_and]
    congr 1
    exact decide_eq_decide.mpr ⟨fun q => q.symm, fun q => q.symm⟩
  · have : v ≠ j := by omega
    simp [hj, this]
theorem M_oneOf_l {N : Nat} {A : hP} {s : Nat} (hs : s < 2 ^ 31) : ∀ (n i : Nat), i ≤ 8 → 8 < i + n → f_X12_oneOf_5 N n A (nI s) (oneR s i) (nI i) = some (oneR s 8, A) := by
  intro n
  induction n with
  | zero => intro i h1 h2; omega
  | succ n ih =>
    intro i h1 h2
    rw [f_X12_oneOf_5]
    by_cases hi : i = 8
    · subst hi
      rw [if_pos (by decide)]
    · have hk : ¬ (8 : Int32) ≤ nI i := nI_ge (a := i) (b := 8) (by omega) (by omega)
      have hp : 2 ^ i < 2 ^ 31 := Nat.pow_lt_pow_right (by decide) (by omega)
      have ih' := ih (i + 1) (by omega) (by omega)
      rw [if_neg hk]
      simp only [shl1 (show i < 32 by omega), nI_eq hs hp, f_X12_oneOf_23, nI_1]
      rw [oneR] at ih'
      by_cases h : s = 2 ^ i
      · rw [if_pos h]
        rw [if_pos h] at ih'
        exact ih'
      · rw [if_neg h]
        rw [if_neg h] at ih'
        exact ih'
theorem M_oneOf {N : Nat} {A : hP} {s : Nat} (hN : 5000 ≤ N) (hs : s < 2 ^ 31) : f_X12_oneOf N A (nI s) = some (oneR s 8, A) := M_oneOf_l hs N 0 (by omega) (by omega)
/-- weights of a thing in the fitting worlds before x -/
def Wt (fit : Nat → Bool) (t x v : Nat) : Bool := anyN (fun y => fit y && decide (wldN y t = v)) x
theorem Wt_s {fit : Nat → Bool} {t x v : Nat} : Wt fit t (x + 1) v = (Wt fit t x v || (fit x && decide (wldN x t = v))) := rfl
theorem Wt_mono {fit : Nat → Bool} {t x y v : Nat} (h : x ≤ y) (hx : Wt fit t x v = true) : Wt fit t y v = true := by
  obtain ⟨k, h1, h2⟩ := anyN_iff.mp hx
  exact anyN_iff.mpr ⟨k, by omega, h2⟩
section SUs
variable {N m : Nat} {F : Nat → Nat → Int32} {L : Nat → Nat → Option Nat} {T : Nat → Nat} {P S : Nat → Nat}
theorem C_sure_l {t : Nat} (hN : 5000 ≤ N) (pv : PV P) (tv : TV F P S (P 4)) (ht : t < 4) : ∀ (n x : Nat) (only : Int32), x ≤ 8 ^ P 3 → 8 ^ P 3 < x + n → ((only = -1000000 ∧ ∀ v, v < 8 → Wt (fitB (F 19) P S) t x v = false) ∨ ∃ v, v < 8 ∧ only = nI v ∧ ∀ u, u < 8 → Wt (fitB (F 19) P S) t x u = decide (u = v)) → f_X10_sureWeight_5 N n (Hp m F L T) (some 15) (nI t) only (nI x) = some (oneR (bitsN (Wt (fitB (F 19) P S) t (8 ^ P 3)) 8) 8, Hp m F L T) := by
  have hp := p8_le pv.2.2.2.1
  intro n
  induction n with
  | zero => intro x only h1 h2; omega
  | succ n ih =>
    intro x only h1 h2 h3
    rw [f_X10_sureWeight_5]
    simp only [tv.2.2.2.1, gI_0, gI_2, gI_4, gI_9, gI_15, gI_21, gI_49, gP_0, gP_2, gP_4, gP_9, gP_15, gP_21, gP_49, gR_0, gR_2, gR_4, gR_9, gR_15, gR_21, gR_49, gL_53, gL_54, oPz_0, oPz_1, Option.bind_some, c10, c01, cm1, c00, if_true, if_false, ne_eq, not_true_eq_false, not_false_eq_true]
    by_cases hx : x = 8 ^ P 3
    · rw [if_pos (by rw [hx]; exact Int32.le_refl _), ← hx]
      rcases h3 with ⟨a, b⟩ | ⟨v, a, b, c⟩
      · rw [a, oneR_no (fun k _ q => by
          rw [bitsN_0.mpr b] at q
          have := Nat.two_pow_pos k
          omega)]
      · rw [b, bits_one a c, oneR_yes a]
    · rw [if_neg (nI_ge (show x < 8 ^ P 3 by omega) (by omega))]
      have hlt := wld_lt x t
      simp only [C_wIn (show x < 4096 by omega) (show t < 10 by omega), C_fit hN pv tv (Nat.le_refl _) (show x < 4096 by omega), f_X10_sureWeight_46, bB_0, nI_1, gI_0, gI_2, gI_4, gI_9, gI_15, gI_21, gI_49, gP_0, gP_2, gP_4, gP_9, gP_15, gP_21, gP_49, gR_0, gR_2, gR_4, gR_9, gR_15, gR_21, gR_49, gL_53, gL_54, oPz_0, oPz_1, Option.bind_some, c10, c01, cm1, c00, if_true, if_false, ne_eq, not_true_eq_false, not_false_eq_true]
      rcases h3 with ⟨a, b⟩ | ⟨v, a, b, c⟩
      · have e1 : ¬ nI (wldN x t) = only := by
          rw [a]
          intro q
          have := (fa_eq _ _).mp q
          rw [nI_toInt (by omega)] at this
          have e : (-1000000 : Int32).toInt = -1000000 := by decide
          omega
        rw [if_neg e1, if_pos a]
        by_cases hf : fitB (F 19) P S x = true
        · rw [if_neg (by rw [hf]; decide)]
          refine ih (x + 1) _ (by omega) (by omega) (Or.inr ⟨wldN x t, hlt, rfl, fun u hu => ?_⟩)
          rw [Wt_s, b u hu, hf, Bool.false_or, Bool.true_and]
          exact decide_eq_decide.mpr ⟨fun q => q.symm, fun q => q.symm⟩
        · have hf' := (Bool.not_eq_true _).mp hf
          rw [if_pos hf']
          refine ih (x + 1) _ (by omega) (by omega) (Or.inl ⟨a, fun u hu => ?_⟩)
          rw [Wt_s, b u hu, hf']
          rfl
      · rw [b]
        by_cases hv : wldN x t = v
        · rw [if_pos (by rw [hv])]
          refine ih (x + 1) _ (by omega) (by omega) (Or.inr ⟨v, a, rfl, fun u hu => ?_⟩)
          rw [Wt_s, c u hu]
          by_cases huv : u = v
          · simp [huv]
          · have : ¬ wldN x t = u := by omega
            simp [huv, this]
        · have e1 : ¬ nI (wldN x t) = nI v := fun q => hv ((nI_eq (by omega) (by omega)).mp q)
          rw [if_neg e1]
          by_cases hf : fitB (F 19) P S x = true
          · rw [if_neg (by rw [hf]; decide), if_neg (by
              intro q
              have := (fa_eq _ _).mp q
              rw [nI_toInt (by omega)] at this
              have e : (-1000000 : Int32).toInt = -1000000 := by decide
              omega)]
            have w1 : Wt (fitB (F 19) P S) t (x + 1) v = true := by rw [Wt_s, c v a]; simp
            have w2 : Wt (fitB (F 19) P S) t (x + 1) (wldN x t) = true := by rw [Wt_s, hf]; simp
            rw [oneR_no (fun k _ => bits_two a hlt (fun q => hv q.symm) (Wt_mono (by omega) w1) (Wt_mono (by omega) w2) k)]
          · have hf' := (Bool.not_eq_true _).mp hf
            rw [if_pos hf']
            refine ih (x + 1) _ (by omega) (by omega) (Or.inr ⟨v, a, rfl, fun u hu => ?_⟩)
            rw [Wt_s, c u hu, hf']
            simp
theorem M_sure_l {q t : Nat} {tv : Nat → Int32} {G0 : Nat → Nat → Int32} (hN : 5000 ≤ N) (mc : MC G0 P S q tv) (ht : t < P 3) : ∀ (n x : Nat) (G : Nat → Nat → Int32), (∀ p, p ≠ 56 → G p = G0 p) → x ≤ 8 ^ P 3 → 8 ^ P 3 < x + n → ∃ G', f_X12_sure_28 N n (Hp m G L T) (some 49) (nI q) (nI t) (nI (bitsN (Wt (fitB tv P S) t x) 8)) (nI x) = some (oneR (bitsN (Wt (fitB tv P S) t (8 ^ P 3)) 8) 8, Hp m G' L T) ∧ ∀ p, p ≠ 56 → G' p = G0 p := by
  have h3 := mc.2.1.1
  have hp := p8_le h3
  have h4 := mc.2.2.2.2.1
  intro n
  induction n with
  | zero => intro x G _ h1 h2; omega
  | succ n ih =>
    intro x G e h1 h2
    rw [f_X12_sure_28]
    have g3 : G 53 3 = nI (P 3) := by rw [e 53 (by decide)]; exact mc.2.1.2.2.2.2.1
    have hlt8 := bitsN_lt (Wt (fitB tv P S) t x) 8
    simp only [M_worlds h3 g3, M_oneOf hN (show bitsN (Wt (fitB tv P S) t x) 8 < 2 ^ 31 by omega), gI_0, gI_2, gI_4, gI_9, gI_15, gI_21, gI_49, gP_0, gP_2, gP_4, gP_9, gP_15, gP_21, gP_49, gR_0, gR_2, gR_4, gR_9, gR_15, gR_21, gR_49, gL_53, gL_54, oPz_0, oPz_1, Option.bind_some, c10, c01, cm1, c00, if_true, if_false, ne_eq, not_true_eq_false, not_false_eq_true]
    by_cases hx : x = 8 ^ P 3
    · rw [if_pos (by rw [hx]; exact Int32.le_refl _), hx]
      exact ⟨G, rfl, e⟩
    · rw [if_neg (nI_ge (show x < 8 ^ P 3 by omega) (by omega))]
      obtain ⟨G1, a1, a2, a3, a4, a5⟩ := M_world (N := N) (m := m) (L := L) (T := T) hN mc (show x < 4096 by omega) e
      obtain ⟨G', r1, r2⟩ := ih (x + 1) G1 a2 (by omega) (by omega)
      refine ⟨G', ?_, r2⟩
      have hlt := wld_lt x t
      simp only [a1, a5, wrg0 h4, (gN_56 (show t < 4 by omega)).1, (a3.1 t ht).1, f_X12_sure_65, or_0, nI_1, shl1 (show wldN x t < 32 by omega), fa_or, gI_0, gI_2, gI_4, gI_9, gI_15, gI_21, gI_49, gP_0, gP_2, gP_4, gP_9, gP_15, gP_21, gP_49, gR_0, gR_2, gR_4, gR_9, gR_15, gR_21, gR_49, gL_53, gL_54, oPz_0, oPz_1, Option.bind_some, c10, c01, cm1, c00, if_true, if_false, ne_eq, not_true_eq_false, not_false_eq_true]
      by_cases hf : fitB tv P S x = true
      · rw [if_pos hf, bits_or (r := Wt (fitB tv P S) t (x + 1)) hlt (fun u hu => by
          rw [Wt_s, hf, Bool.true_and]
          congr 1
          exact decide_eq_decide.mpr ⟨fun q => q.symm, fun q => q.symm⟩)]
        exact r1
      · rw [if_neg hf]
        rw [bitsN_c (p := Wt (fitB tv P S) t (x + 1)) (q := Wt (fitB tv P S) t x) (fun u hu => by rw [Wt_s, (Bool.not_eq_true _).mp hf, Bool.false_and, Bool.or_false])] at r1
        exact r1
end SUs
theorem o_sure (N : Nat) (hN : 5000 ≤ N) (m : Nat) (F : Nat → Nat → Int32) (L : Nat → Nat → Option Nat) (T : Nat → Nat) (hm : m ≤ 3000) (R : Rel m F L T) (a b : Int32) : OpOk (fun A => f_X11_sure N A (some 0) a b) (fun A => f_X12_sure N A (some 49) a b) m F L T := by
  obtain ⟨P, pv, pm, pc, sr⟩ := R.2.2.1
  have v3 : P 3 ≤ 4 := pv.2.2.2.1
  have v4 : P 4 ≤ 24 := pv.2.2.2.2.1
  have hp8 := p8_le v3
  have c4 : F 4 4 = nI (P 3) := pc.2.2.2.2.1
  have c5 : F 4 5 = nI (P 4) := pc.2.2.2.2.2.1
  have hl : ∀ i, i < P 3 → ∃ t, L 7 i = some t := fun i hi => by
    obtain ⟨t, q1, -⟩ := pc.2.2.2.2.2.2.2.1 i hi
    exact ⟨t, q1⟩
  have ex := X11_sure_e (N := N) (m := m) (T := T) v3 c4 hl a b
  rcases tell hN R pv pm pc a (thOk (P 3) b) with ⟨v, F1, F2, h1, h2, h3, h4, h5, h6⟩ | ⟨hok, hp2, q, hq, rfl, ht, h1, h2⟩
  · refine ⟨v, m, F1, L, T, F2, ?_, ?_, h5, by omega⟩
    · simp only [ex, f_X11_sure_18, h1, h2, gI_0, gI_2, gI_4, gI_9, gI_15, gI_21, gI_49, gP_0, gP_2, gP_4, gP_9, gP_15, gP_21, gP_49, gR_0, gR_2, gR_4, gR_9, gR_15, gR_21, gR_49, gL_53, gL_54, oPz_0, oPz_1, Option.bind_some, c10, c01, cm1, c00, if_true, if_false, ne_eq, not_true_eq_false, not_false_eq_true]
    · have e3 : up2 F1 49 0 0 53 3 = nI (P 3) := by rw [up2_ne (by decide), h6]; exact pm.1 3 (by omega)
      simp only [f_X12_sure, f_X12_sure_0, M_thing_b v3 e3, h4, h3, gI_0, gI_2, gI_4, gI_9, gI_15, gI_21, gI_49, gP_0, gP_2, gP_4, gP_9, gP_15, gP_21, gP_49, gR_0, gR_2, gR_4, gR_9, gR_15, gR_21, gR_49, gL_53, gL_54, oPz_0, oPz_1, Option.bind_some, c10, c01, cm1, c00, if_true, if_false, ne_eq, not_true_eq_false, not_false_eq_true]
  obtain ⟨t, htt, rfl⟩ := thOk_of (by omega) hok
  rw [hok] at ex
  have ex' : f_X11_sure N (Hp m F L T) (some 0) (nI q) (nI t) = f_X11_sure_18 N (Hp m F L T) (some 0) (nI q) (nI t) (some 0) (nI q) 0 := ex
  obtain ⟨F1, b1, b2, b3, b4, b5⟩ := C_begin (N := N) hN hq (CV_of pv pc) v4 c5
  obtain ⟨G, g1, g2, g3⟩ := h2 (up2 F1 0 8 0) (by rw [up2_ne (by decide)]; exact b4 50 (by decide) (by decide) (by decide) (by decide) (by decide)) (by rw [up2_ne (by decide)]; exact b4 51 (by decide) (by decide) (by decide) (by decide) (by decide)) (by rw [up2_ne (by decide)]; exact b4 52 (by decide) (by decide) (by decide) (by decide) (by decide)) (fun i _ => by rw [up2_ne (by decide), b4 53 (by decide) (by decide) (by decide) (by decide) (by decide)])
  have mc := MC_of (m := m) pv pm hq hp2 ht b4 g2 g3
  have hfit : fitB (F1 19) P (setN P) = fitB (F (24 + 2 * q)) P (setN P) := funext fun x => by
    unfold fitB
    rw [bitsN_c (q := wrg (F (24 + 2 * q)) (shW P (setN P) x)) (fun t htt => by unfold wrg; rw [b3 t htt])]
  obtain ⟨G', r1, r2⟩ := M_sure_l (N := N) (m := m) (L := L) (T := T) hN mc htt N 0 G (fun _ _ => rfl) (Nat.zero_le _) (by omega)
  have r1' : f_X12_sure_28 N N (Hp m G L T) (some 49) (nI q) (nI t) 0 0 = some (oneR (bitsN (Wt (fitB (F (24 + 2 * q)) P (setN P)) t (8 ^ P 3)) 8) 8, Hp m G' L T) := by
    rw [show bitsN (Wt (fitB (F (24 + 2 * q)) P (setN P)) t 0) 8 = 0 from bitsN_0.mpr (fun _ _ => rfl)] at r1
    exact r1
  have s1 := C_sure_l (N := N) (m := m) (L := L) (T := T) hN pv b2 (show t < 4 by omega) N 0 (-1000000) (Nat.zero_le _) (by omega) (Or.inl ⟨rfl, fun _ _ => rfl⟩)
  rw [hfit] at s1
  have s1' : f_X10_sureWeight_5 N N (Hp m F1 L T) (some 15) (nI t) (-1000000) 0 = some (oneR (bitsN (Wt (fitB (F (24 + 2 * q)) P (setN P)) t (8 ^ P 3)) 8) 8, Hp m F1 L T) := s1
  refine ⟨oneR (bitsN (Wt (fitB (F (24 + 2 * q)) P (setN P)) t (8 ^ P 3)) 8) 8, m, up2 F1 0 8 0, L, T, G', ?_, ?_, R.told b4 b5 ⟨fun p p1 p2 => by rw [r2 p p1]; exact g2.1 p p1 p2, fun k k1 k2 k3 => by rw [r2 49 (by decide)]; exact g2.2 k k1 k2 k3⟩, by omega⟩
  · simp only [ex', f_X11_sure_18, h1, gN_1 hq, gR_r hq, b1, f_X10_sureWeight, f_X10_sureWeight_0, s1', f_X11_passed, f_X11_passed_0, gI_0, gI_2, gI_4, gI_9, gI_15, gI_21, gI_49, gP_0, gP_2, gP_4, gP_9, gP_15, gP_21, gP_49, gR_0, gR_2, gR_4, gR_9, gR_15, gR_21, gR_49, gL_53, gL_54, oPz_0, oPz_1, Option.bind_some, c10, c01, cm1, c00, if_true, if_false, ne_eq, not_true_eq_false, not_false_eq_true]
  · have e3 : up2 (up2 F1 0 8 0) 49 0 0 53 3 = nI (P 3) := by rw [up2_ne (by decide), up2_ne (by decide), b4 53 (by decide) (by decide) (by decide) (by decide) (by decide)]; exact pm.1 3 (by omega)
    simp only [f_X12_sure, f_X12_sure_0, M_thing_b v3 e3, hok, bB_t, g1, show ((0 : Int32) ≤ 0) = True from eq_true (by decide), r1', gI_0, gI_2, gI_4, gI_9, gI_15, gI_21, gI_49, gP_0, gP_2, gP_4, gP_9, gP_15, gP_21, gP_49, gR_0, gR_2, gR_4, gR_9, gR_15, gR_21, gR_49, gL_53, gL_54, oPz_0, oPz_1, Option.bind_some, c10, c01, cm1, c00, if_true, if_false, ne_eq, not_true_eq_false, not_false_eq_true]
-- GAP
def gpS (fit : Nat → Bool) (sh : Nat → Int32) : Nat → Int32 × Bool
  | 0 => (-1000000, true)
  | x + 1 => if fit x = true then (sh x, (gpS fit sh x).2 && decide ((gpS fit sh x).1 = -1000000 ∨ (gpS fit sh x).1 = sh x)) else gpS fit sh x
theorem gpS_f {fit : Nat → Bool} {sh : Nat → Int32} {x y : Nat} (h : x ≤ y) (hx : (gpS fit sh x).2 = false) : (gpS fit sh y).2 = false := by
  induction y with
  | zero => rw [show x = 0 by omega] at hx; exact hx
  | succ y ih =>
    by_cases hxy : x = y + 1
    · rw [← hxy]; exact hx
    · rw [gpS]
      split
      · simp [ih (by omega)]
      · exact ih (by omega)
def gpV (fit : Nat → Bool) (sh : Nat → Int32) (x : Nat) : Int32 := if (gpS fit sh x).2 = true then (gpS fit sh x).1 else -1000000
section GPs
variable {N m : Nat} {F : Nat → Nat → Int32} {L : Nat → Nat → Option Nat} {T : Nat → Nat} {P S : Nat → Nat}
theorem C_gap_l {d : Nat} (hN : 5000 ≤ N) (pv : PV P) (tv : TV F P S (P 4)) (hd : d < P 4) : ∀ (n x : Nat), x ≤ 8 ^ P 3 → 8 ^ P 3 < x + n → (gpS (fitB (F 19) P S) (fun y => nI (shW P S y d)) x).2 = true → f_X10_sureShown_5 N n (Hp m F L T) (some 15) (nI d) (gpS (fitB (F 19) P S) (fun y => nI (shW P S y d)) x).1 (nI x) = some (gpV (fitB (F 19) P S) (fun y => nI (shW P S y d)) (8 ^ P 3), Hp m F L T) := by
  have hp := p8_le pv.2.2.2.1
  obtain ⟨v0, v1, v2, v3, v4, -⟩ := id pv
  intro n
  induction n with
  | zero => intro x h1 h2; omega
  | succ n ih =>
    intro x h1 h2 h3
    rw [f_X10_sureShown_5]
    simp only [tv.2.2.2.1, gI_0, gI_2, gI_4, gI_9, gI_15, gI_21, gI_49, gP_0, gP_2, gP_4, gP_9, gP_15, gP_21, gP_49, gR_0, gR_2, gR_4, gR_9, gR_15, gR_21, gR_49, gL_53, gL_54, oPz_0, oPz_1, Option.bind_some, c10, c01, cm1, c00, if_true, if_false, ne_eq, not_true_eq_false, not_false_eq_true]
    by_cases hx : x = 8 ^ P 3
    · rw [if_pos (by rw [hx]; exact Int32.le_refl _), ← hx, gpV, if_pos h3]
    · rw [if_neg (nI_ge (show x < 8 ^ P 3 by omega) (by omega))]
      have ih' := ih (x + 1) (by omega) (by omega)
      simp only [C_fit hN pv tv (Nat.le_refl _) (show x < 4096 by omega), C_shIn hN v3 v0 v1 v2 tv.1 tv.2.1 (fun e he => tv.2.2.2.2 e (show e < P 4 by omega)) (show d ≤ 25 by omega) (show x < 4096 by omega), f_X10_sureShown_44, f_X10_sureShown_47, bB_0, nI_1, gI_0, gI_2, gI_4, gI_9, gI_15, gI_21, gI_49, gP_0, gP_2, gP_4, gP_9, gP_15, gP_21, gP_49, gR_0, gR_2, gR_4, gR_9, gR_15, gR_21, gR_49, gL_53, gL_54, oPz_0, oPz_1, Option.bind_some, c10, c01, cm1, c00, if_true, if_false, ne_eq, not_true_eq_false, not_false_eq_true]
      by_cases hf : fitB (F 19) P S x = true
      · rw [if_neg (by rw [hf]; decide)]
        have st : gpS (fitB (F 19) P S) (fun y => nI (shW P S y d)) (x + 1) = (nI (shW P S x d), (gpS (fitB (F 19) P S) (fun y => nI (shW P S y d)) x).2 && decide ((gpS (fitB (F 19) P S) (fun y => nI (shW P S y d)) x).1 = -1000000 ∨ (gpS (fitB (F 19) P S) (fun y => nI (shW P S y d)) x).1 = nI (shW P S x d))) := by rw [gpS, if_pos hf]
        rw [st, h3, Bool.true_and] at ih'
        by_cases h4 : (gpS (fitB (F 19) P S) (fun y => nI (shW P S y d)) x).1 = -1000000
        · rw [if_pos h4]
          exact ih' (decide_eq_true (Or.inl h4))
        · rw [if_neg h4]
          by_cases h5 : (gpS (fitB (F 19) P S) (fun y => nI (shW P S y d)) x).1 = nI (shW P S x d)
          · rw [if_pos h5]
            exact ih' (decide_eq_true (Or.inr h5))
          · rw [if_neg h5, gpV, if_neg (by
              rw [gpS_f (x := x + 1) (by omega) (by rw [st, h3, Bool.true_and]; exact decide_eq_false (fun q => by rcases q with q | q; exact h4 q; exact h5 q))]
              decide)]
      · have hf' := (Bool.not_eq_true _).mp hf
        rw [if_pos hf']
        have st : gpS (fitB (F 19) P S) (fun y => nI (shW P S y d)) (x + 1) = gpS (fitB (F 19) P S) (fun y => nI (shW P S y d)) x := by rw [gpS, if_neg hf]
        rw [st] at ih'
        exact ih' h3
theorem M_gap_l {q d : Nat} {tv : Nat → Int32} {G0 : Nat → Nat → Int32} (hN : 5000 ≤ N) (mc : MC G0 P S q tv) (hd : d < P 4) : ∀ (n x : Nat) (G : Nat → Nat → Int32), (∀ p, p ≠ 56 → G p = G0 p) → x ≤ 8 ^ P 3 → 8 ^ P 3 < x + n → ∃ G', f_X12_gap_32 N n (Hp m G L T) (some 49) (nI q) (nI d) (gpS (fitB tv P S) (fun y => nI (shW P S y d)) x).1 (bB (gpS (fitB tv P S) (fun y => nI (shW P S y d)) x).2) (nI x) = some (gpV (fitB tv P S) (fun y => nI (shW P S y d)) (8 ^ P 3), Hp m G' L T) ∧ ∀ p, p ≠ 56 → G' p = G0 p := by
  have h3 := mc.2.1.1
  have hp := p8_le h3
  have h4 := mc.2.2.2.2.1
  intro n
  induction n with
  | zero => intro x G _ h1 h2; omega
  | succ n ih =>
    intro x G e h1 h2
    rw [f_X12_gap_32]
    have g3 : G 53 3 = nI (P 3) := by rw [e 53 (by decide)]; exact mc.2.1.2.2.2.2.1
    simp only [M_worlds h3 g3, f_X12_gap_109, bB_0, gI_0, gI_2, gI_4, gI_9, gI_15, gI_21, gI_49, gP_0, gP_2, gP_4, gP_9, gP_15, gP_21, gP_49, gR_0, gR_2, gR_4, gR_9, gR_15, gR_21, gR_49, gL_53, gL_54, oPz_0, oPz_1, Option.bind_some, c10, c01, cm1, c00, if_true, if_false, ne_eq, not_true_eq_false, not_false_eq_true]
    by_cases hx : x = 8 ^ P 3
    · refine ⟨G, ?_, e⟩
      rw [if_pos (by rw [hx]; exact Int32.le_refl _), ← hx, gpV]
      cases (gpS (fitB tv P S) (fun y => nI (shW P S y d)) x).2 <;> simp
    · rw [if_neg (nI_ge (show x < 8 ^ P 3 by omega) (by omega))]
      obtain ⟨G1, a1, a2, a3, a4, a5⟩ := M_world (N := N) (m := m) (L := L) (T := T) hN mc (show x < 4096 by omega) e
      obtain ⟨G', r1, r2⟩ := ih (x + 1) G1 a2 (by omega) (by omega)
      refine ⟨G', ?_, r2⟩
      have es : f_X12_shows N (Hp m G1 L T) (some 49) (nI d) = some (nI (shW P S x d), Hp m G1 L T) := M_shows hN a4 mc.2.2.2.1 a3 hd
      simp only [a1, a5, wrg0 h4, es, f_X12_gap_77, f_X12_gap_81, f_X12_gap_82, f_X12_gap_91, nI_1, gI_0, gI_2, gI_4, gI_9, gI_15, gI_21, gI_49, gP_0, gP_2, gP_4, gP_9, gP_15, gP_21, gP_49, gR_0, gR_2, gR_4, gR_9, gR_15, gR_21, gR_49, gL_53, gL_54, oPz_0, oPz_1, Option.bind_some, c10, c01, cm1, c00, if_true, if_false, ne_eq, not_true_eq_false, not_false_eq_true]
      by_cases hf : fitB tv P S x = true
      · rw [if_pos hf]
        have st : gpS (fitB tv P S) (fun y => nI (shW P S y d)) (x + 1) = (nI (shW P S x d), (gpS (fitB tv P S) (fun y => nI (shW P S y d)) x).2 && decide ((gpS (fitB tv P S) (fun y => nI (shW P S y d)) x).1 = -1000000 ∨ (gpS (fitB tv P S) (fun y => nI (shW P S y d)) x).1 = nI (shW P S x d))) := by rw [gpS, if_pos hf]
        rw [st] at r1
        by_cases hs : (gpS (fitB tv P S) (fun y => nI (shW P S y d)) x).2 = false
        · rw [if_pos hs]
          rw [hs, Bool.false_and] at r1
          exact r1
        · rw [if_neg hs]
          rw [(Bool.not_eq_false _).mp hs, Bool.true_and] at r1
          by_cases h5 : (gpS (fitB tv P S) (fun y => nI (shW P S y d)) x).1 = -1000000
          · rw [if_pos h5]
            rw [decide_eq_true (Or.inl h5)] at r1
            exact r1
          · rw [if_neg h5]
            by_cases h6 : (gpS (fitB tv P S) (fun y => nI (shW P S y d)) x).1 = nI (shW P S x d)
            · rw [if_pos h6]
              rw [decide_eq_true (Or.inr h6)] at r1
              exact r1
            · rw [if_neg h6]
              rw [decide_eq_false (fun q => by rcases q with q | q; exact h5 q; exact h6 q)] at r1
              exact r1
      · rw [if_neg hf]
        have st : gpS (fitB tv P S) (fun y => nI (shW P S y d)) (x + 1) = gpS (fitB tv P S) (fun y => nI (shW P S y d)) x := by rw [gpS, if_neg hf]
        rw [st] at r1
        exact r1
end GPs
theorem o_gap (N : Nat) (hN : 5000 ≤ N) (m : Nat) (F : Nat → Nat → Int32) (L : Nat → Nat → Option Nat) (T : Nat → Nat) (hm : m ≤ 3000) (R : Rel m F L T) (a b : Int32) : OpOk (fun A => f_X11_gap N A (some 0) a b) (fun A => f_X12_gap N A (some 49) a b) m F L T := by
  obtain ⟨P, pv, pm, pc, sr⟩ := R.2.2.1
  have v3 : P 3 ≤ 4 := pv.2.2.2.1
  have v4 : P 4 ≤ 24 := pv.2.2.2.2.1
  have hp8 := p8_le v3
  have c5 : F 4 5 = nI (P 4) := pc.2.2.2.2.2.1
  have ex := X11_gap_e (N := N) (m := m) (L := L) (T := T) v4 c5 a b
  rcases tell hN R pv pm pc a (thOk (P 4) b) with ⟨v, F1, F2, h1, h2, h3, h4, h5, h6⟩ | ⟨hok, hp2, q, hq, rfl, ht, h1, h2⟩
  · refine ⟨v, m, F1, L, T, F2, ?_, ?_, h5, by omega⟩
    · simp only [ex, f_X11_gap_18, h1, h2, gI_0, gI_2, gI_4, gI_9, gI_15, gI_21, gI_49, gP_0, gP_2, gP_4, gP_9, gP_15, gP_21, gP_49, gR_0, gR_2, gR_4, gR_9, gR_15, gR_21, gR_49, gL_53, gL_54, oPz_0, oPz_1, Option.bind_some, c10, c01, cm1, c00, if_true, if_false, ne_eq, not_true_eq_false, not_false_eq_true]
    · have e3 : up2 F1 49 0 0 53 4 = nI (P 4) := by rw [up2_ne (by decide), h6]; exact pm.1 4 (by omega)
      simp only [f_X12_gap, f_X12_gap_0, M_day_b v4 e3, h4, h3, gI_0, gI_2, gI_4, gI_9, gI_15, gI_21, gI_49, gP_0, gP_2, gP_4, gP_9, gP_15, gP_21, gP_49, gR_0, gR_2, gR_4, gR_9, gR_15, gR_21, gR_49, gL_53, gL_54, oPz_0, oPz_1, Option.bind_some, c10, c01, cm1, c00, if_true, if_false, ne_eq, not_true_eq_false, not_false_eq_true]
  obtain ⟨d, hd, rfl⟩ := thOk_of (by omega) hok
  rw [hok] at ex
  have ex' : f_X11_gap N (Hp m F L T) (some 0) (nI q) (nI d) = f_X11_gap_18 N (Hp m F L T) (some 0) (nI q) (nI d) (some 0) (nI q) 0 := ex
  obtain ⟨F1, b1, b2, b3, b4, b5⟩ := C_begin (N := N) hN hq (CV_of pv pc) v4 c5
  obtain ⟨G, g1, g2, g3⟩ := h2 (up2 F1 0 8 0) (by rw [up2_ne (by decide)]; exact b4 50 (by decide) (by decide) (by decide) (by decide) (by decide)) (by rw [up2_ne (by decide)]; exact b4 51 (by decide) (by decide) (by decide) (by decide) (by decide)) (by rw [up2_ne (by decide)]; exact b4 52 (by decide) (by decide) (by decide) (by decide) (by decide)) (fun i _ => by rw [up2_ne (by decide), b4 53 (by decide) (by decide) (by decide) (by decide) (by decide)])
  have mc := MC_of (m := m) pv pm hq hp2 ht b4 g2 g3
  have hfit : fitB (F1 19) P (setN P) = fitB (F (24 + 2 * q)) P (setN P) := funext fun x => by
    unfold fitB
    rw [bitsN_c (q := wrg (F (24 + 2 * q)) (shW P (setN P) x)) (fun t htt => by unfold wrg; rw [b3 t htt])]
  obtain ⟨G', r1, r2⟩ := M_gap_l (N := N) (m := m) (L := L) (T := T) hN mc hd N 0 G (fun _ _ => rfl) (Nat.zero_le _) (by omega)
  have r1' : f_X12_gap_32 N N (Hp m G L T) (some 49) (nI q) (nI d) (-1000000) 1 0 = some (gpV (fitB (F (24 + 2 * q)) P (setN P)) (fun y => nI (shW P (setN P) y d)) (8 ^ P 3), Hp m G' L T) := r1
  have s1 := C_gap_l (N := N) (m := m) (L := L) (T := T) hN pv b2 hd N 0 (Nat.zero_le _) (by omega) rfl
  rw [hfit] at s1
  have s1' : f_X10_sureShown_5 N N (Hp m F1 L T) (some 15) (nI d) (-1000000) 0 = some (gpV (fitB (F (24 + 2 * q)) P (setN P)) (fun y => nI (shW P (setN P) y d)) (8 ^ P 3), Hp m F1 L T) := s1
  refine ⟨gpV (fitB (F (24 + 2 * q)) P (setN P)) (fun y => nI (shW P (setN P) y d)) (8 ^ P 3), m, up2 F1 0 8 0, L, T, G', ?_, ?_, R.told b4 b5 ⟨fun p p1 p2 => by rw [r2 p p1]; exact g2.1 p p1 p2, fun k k1 k2 k3 => by rw [r2 49 (by decide)]; exact g2.2 k k1 k2 k3⟩, by omega⟩
  · simp only [ex', f_X11_gap_18, h1, gN_1 hq, gR_r hq, b1, f_X10_sureShown, f_X10_sureShown_0, s1', f_X11_passed, f_X11_passed_0, gI_0, gI_2, gI_4, gI_9, gI_15, gI_21, gI_49, gP_0, gP_2, gP_4, gP_9, gP_15, gP_21, gP_49, gR_0, gR_2, gR_4, gR_9, gR_15, gR_21, gR_49, gL_53, gL_54, oPz_0, oPz_1, Option.bind_some, c10, c01, cm1, c00, if_true, if_false, ne_eq, not_true_eq_false, not_false_eq_true]
  · have e3 : up2 (up2 F1 0 8 0) 49 0 0 53 4 = nI (P 4) := by rw [up2_ne (by decide), up2_ne (by decide), b4 53 (by decide) (by decide) (by decide) (by decide) (by decide)]; exact pm.1 4 (by omega)
    simp only [f_X12_gap, f_X12_gap_0, M_day_b v4 e3, hok, bB_t, g1, show ((0 : Int32) ≤ 0) = True from eq_true (by decide), r1', gI_0, gI_2, gI_4, gI_9, gI_15, gI_21, gI_49, gP_0, gP_2, gP_4, gP_9, gP_15, gP_21, gP_49, gR_0, gR_2, gR_4, gR_9, gR_15, gR_21, gR_49, gL_53, gL_54, oPz_0, oPz_1, Option.bind_some, c10, c01, cm1, c00, if_true, if_false, ne_eq, not_true_eq_false, not_false_eq_true]
