-- numbers and bits
theorem sm32 : ∀ t, t < 32 → ((nI t &&& 31).toBitVec.smod 32).toNat = t := by decide +kernel
theorem shrN {s t : Nat} (hs : s < 2 ^ 31) (ht : t < 32) : nI s >>> (nI t &&& 31) = nI (s / 2 ^ t) := pk_shrN hs _ t (sm32 t ht)
theorem shlN {s t : Nat} (hs : s * 2 ^ t < 2 ^ 32) (ht : t < 32) : nI s <<< (nI t &&& 31) = nI (s * 2 ^ t) := pk_shlN _ t (sm32 t ht) hs
theorem shl1 {t : Nat} (ht : t < 32) : (1 : Int32) <<< (nI t &&& 31) = nI (2 ^ t) := by
  have h : 1 * 2 ^ t < 2 ^ 32 := by rw [Nat.one_mul]; exact Nat.pow_lt_pow_right (by decide) ht
  have := shlN h ht
  rw [Nat.one_mul] at this
  exact this
def bB (b : Bool) : Int32 := if b then 1 else 0
theorem bB_t : bB true = 1 := rfl
theorem bB_f : bB false = 0 := rfl
theorem bB_or (b : Bool) : bB b = 0 ∨ bB b = 1 := by cases b <;> simp [bB]
theorem bit1 {s t : Nat} (hs : s < 2 ^ 31) (ht : t < 32) : (nI s >>> (nI t &&& 31)) &&& 1 = bB (s.testBit t) := by
  rw [shrN hs ht, show (1 : Int32) = nI (2 ^ 1 - 1) from rfl, fa_mask, Nat.testBit_eq_decide_div_mod_eq, Nat.pow_one]
  rcases Nat.mod_two_eq_zero_or_one (s / 2 ^ t) with h | h <;> rw [h] <;> rfl
theorem rmN {a d : Nat} (ha : a < 2 ^ 31) (h0 : 0 < d) (hd : d < 2 ^ 31) : oRm (nI a) (nI d) = some (nI (a % d)) := by
  unfold oRm
  rw [if_neg (nI_ne0 h0 hd), pk_rem ha h0 hd]
theorem dvN {a d : Nat} (ha : a < 2 ^ 31) (h0 : 0 < d) (hd : d < 2 ^ 31) : oDv (nI a) (nI d) = some (nI (a / d)) := by
  unfold oDv
  rw [if_neg (nI_ne0 h0 hd), pk_div ha h0 hd]
theorem dv3 {a : Nat} (ha : a < 2 ^ 31) : oDv (nI a) 3 = some (nI (a / 3)) := dvN (d := 3) ha (by decide) (by decide)
theorem dv4 {a : Nat} (ha : a < 2 ^ 31) : oDv (nI a) 4 = some (nI (a / 4)) := dvN (d := 4) ha (by decide) (by decide)
theorem ix5 (t : Nat) : (5 : Int32) + (2 : Int32) * nI t = nI (5 + 2 * t) := by
  rw [show (2 : Int32) = nI 2 from rfl, show (5 : Int32) = nI 5 from rfl, pk_mul, nI_add]
theorem ix6 (t : Nat) : ((5 : Int32) + (2 : Int32) * nI t) + 1 = nI (6 + 2 * t) := by
  rw [ix5, nI_1, show 5 + 2 * t + 1 = 6 + 2 * t by omega]
theorem ix13 (d : Nat) : (13 : Int32) + nI d = nI (13 + d) := by rw [show (13 : Int32) = nI 13 from rfl, nI_add]
theorem sumN_le {f : Nat → Nat} {c : Nat} : ∀ {n : Nat}, (∀ k, k < n → f k ≤ c) → sumN f n ≤ c * n
  | 0, _ => by simp [sumN]
  | n + 1, h => by
    have h1 := sumN_le (f := f) (c := c) (n := n) (fun k hk => h k (by omega))
    have h2 := h n (by omega)
    rw [sumN, Nat.mul_add, Nat.mul_one]
    omega
theorem anyN_iff {p : Nat → Bool} : ∀ {n : Nat}, anyN p n = true ↔ ∃ t, t < n ∧ p t = true
  | 0 => by simp [anyN]
  | n + 1 => by
    rw [anyN, Bool.or_eq_true, anyN_iff (p := p) (n := n)]
    constructor
    · rintro (⟨t, h1, h2⟩ | h)
      · exact ⟨t, by omega, h2⟩
      · exact ⟨n, by omega, h⟩
    · rintro ⟨t, h1, h2⟩
      by_cases ht : t = n
      · subst ht; exact Or.inr h2
      · exact Or.inl ⟨t, by omega, h2⟩
theorem bits_lt {p : Nat → Bool} : ∀ n, sumN (fun t => if p t = true then 2 ^ t else 0) n < 2 ^ n
  | 0 => by simp [sumN]
  | n + 1 => by
    have := bits_lt (p := p) n
    rw [sumN, Nat.pow_succ]
    split <;> omega
theorem bits_tb {p : Nat → Bool} (j : Nat) : ∀ n, (sumN (fun t => if p t = true then 2 ^ t else 0) n).testBit j = (decide (j < n) && p j)
  | 0 => by simp [sumN]
  | n + 1 => by
    have h1 := bits_lt (p := p) n
    have ih := bits_tb (p := p) j n
    rw [sumN]
    by_cases hp : p n = true
    · rw [if_pos hp, Nat.add_comm]
      rcases Nat.lt_trichotomy j n with h | h | h
      · rw [Nat.testBit_two_pow_add_gt h, ih]; simp [h, show j < n + 1 by omega]
      · subst h
        rw [Nat.testBit_two_pow_add_eq, Nat.testBit_lt_two_pow h1]; simp [hp]
      · rw [Nat.testBit_lt_two_pow (Nat.lt_of_lt_of_le (show 2 ^ n + _ < 2 ^ (n + 1) by rw [Nat.pow_succ]; omega) (Nat.pow_le_pow_right (by decide) h))]
        simp [show ¬ j < n + 1 by omega]
    · rw [if_neg hp, Nat.add_zero, ih]
      by_cases hj : j = n
      · subst hj; simp [hp]
      · simp [show (j < n + 1) ↔ j < n by omega]
theorem stN_bits (P : Nat → Nat) : stN P = sumN (fun t => if (decide (P (5 + 2 * t) = 4)) = true then 2 ^ t else 0) (P 3) := by
  unfold stN
  exact sumN_congr (fun k _ => by simp)
theorem stN_lt (P : Nat → Nat) : stN P < 2 ^ P 3 := by rw [stN_bits]; exact bits_lt _
theorem fresh_and (P : Nat → Nat) (s : Nat) : freshN P s = true ↔ s &&& stN P ≠ 0 := by
  unfold freshN
  rw [anyN_iff]
  constructor
  · rintro ⟨t, h1, h2⟩ h
    have : (s &&& stN P).testBit t = true := by
      rw [Nat.testBit_and, stN_bits, bits_tb]
      rw [Bool.and_eq_true] at h2
      simp [h1, h2.1, of_decide_eq_true h2.2]
    rw [h, Nat.zero_testBit] at this
    exact absurd this (by decide)
  · intro h
    obtain ⟨t, ht⟩ := Nat.exists_testBit_of_ne_zero h
    rw [Nat.testBit_and, stN_bits, bits_tb] at ht
    simp only [Bool.and_eq_true, decide_eq_true_eq] at ht
    exact ⟨t, ht.2.1, by simp [ht.1, ht.2.2]⟩
theorem and0 {a b : Nat} (ha : a < 2 ^ 31) : nI a &&& nI b = 0 ↔ a &&& b = 0 := by
  rw [fa_and]
  have h : a &&& b < 2 ^ 31 := Nat.lt_of_le_of_lt Nat.and_le_left ha
  constructor
  · intro q
    rcases Nat.eq_zero_or_pos (a &&& b) with h1 | h1
    · exact h1
    · exact absurd q (nI_ne0 h1 h)
  · intro q; rw [q]; rfl
theorem heavy_le {k w d : Nat} (hw : w ≤ 7) (hd : d ≤ 99) : heavyN k w d ≤ 70 := by
  unfold heavyN
  split
  · omega
  · split
    · omega
    · split <;> omega
theorem load_le {P : Nat → Nat} {s d : Nat} {w : Nat → Nat} (hn : P 3 ≤ 4) (hw : ∀ t, t < P 3 → w t ≤ 7) (hd : d ≤ 99) : loadN P s w d ≤ 280 := by
  have : loadN P s w d ≤ 70 * P 3 := by
    unfold loadN
    apply sumN_le
    intro t ht
    split
    · exact heavy_le (hw t ht) hd
    · omega
  omega
theorem rcN_le (fr : Nat → Bool) : ∀ k d, rcN fr k d ≤ k
  | 0, d => by simp [rcN]
  | k + 1, d => by
    rw [rcN]
    have := rcN_le fr k (d - 1)
    split <;> omega
theorem rcN_le2 (fr : Nat → Bool) : ∀ k d, rcN fr k d ≤ d
  | 0, d => by simp [rcN]
  | k + 1, d => by
    rw [rcN]
    have := rcN_le2 fr k (d - 1)
    split
    · omega
    · omega
theorem sh_le {P : Nat → Nat} {S w : Nat → Nat} {hf er d k : Nat} (hn : P 3 ≤ 4) (hw : ∀ t, t < P 3 → w t ≤ 7) (hd : d ≤ 99) : (loadN P (S (d - k)) w (d - k) + if d - k = er then 1 else 0) >>> (k * hf) ≤ 281 := by
  have h1 : loadN P (S (d - k)) w (d - k) ≤ 280 := load_le hn hw (by omega)
  rw [Nat.shiftRight_eq_div_pow]
  refine Nat.le_trans (Nat.div_le_self _ _) ?_
  split <;> omega
-- THE CLASS'S VIEW of its port, with sets S on D days
def CV (m : Nat) (F : Nat → Nat → Int32) (L : Nat → Nat → Option Nat) (T : Nat → Nat) (P S : Nat → Nat) (D : Nat) : Prop :=
  P 3 ≤ 4 ∧ P 0 ≤ 3 ∧ P 1 ≤ 1 ∧ P 2 ≤ 200 ∧ (∀ i, i < P 3 → 1 ≤ P (5 + 2 * i) ∧ P (5 + 2 * i) ≤ 5 ∧ P (6 + 2 * i) ≤ 7) ∧ F 4 1 = nI (P 0) ∧ F 4 2 = nI (P 1) ∧ F 4 3 = nI (P 2) ∧ F 4 4 = nI (P 3) ∧ F 4 6 = nI (stN P) ∧ PT m F L T 4 P ∧ (∀ d, d < D → F 8 d = nI (S d) ∧ S d < 16) ∧ D ≤ 26
theorem isTh_cls : ∀ k, k ≤ 5 → isTh (clsOf k) = true := by decide
theorem v_heavy {N m t k w d : Nat} {F : Nat → Nat → Int32} {L : Nat → Nat → Option Nat} {T : Nat → Nat} (h1 : 62 ≤ t) (h2 : t < 62 + m) (h3 : T t = clsOf k) (k1 : 1 ≤ k) (k5 : k ≤ 5) (hw : w ≤ 7) (hd : d ≤ 99) : v_X7_heavyWith N (Hp m F L T) (some t) (nI w) (nI d) = some (nI (heavyN k w d), Hp m F L T) := by
  unfold v_X7_heavyWith
  rw [gT_th h1 h2, h3, Option.bind_some]
  rcases (show k = 1 ∨ k = 2 ∨ k = 3 ∨ k = 4 ∨ k = 5 by omega) with rfl | rfl | rfl | rfl | rfl
  · simp [clsOf, f_X7_heavyWith, f_X7_heavyWith_0, heavyN]
  · simp only [clsOf, if_true, f_X1_heavyWith, f_X1_heavyWith_0, f_X1_heavyWith_15, heavyN, dv3 (show d < 2 ^ 31 by omega), Option.bind_some]
    by_cases hq : d / 3 < w
    · have e : nI w - nI (d / 3) = nI (w - d / 3) := pk_sub (by omega)
      have e0 : ¬ nI (w - d / 3) ≤ 0 := nI_ge (a := 0) (b := w - d / 3) (by omega) (by omega)
      rw [e, if_neg e0]
    · have e : nI w - nI (d / 3) ≤ 0 := by
        rw [fa_le, pk_sub_toInt (by omega) (by omega)]
        have : (0 : Int32).toInt = 0 := rfl
        omega
      rw [if_pos e, show w - d / 3 = 0 by omega]
      rfl
  · simp [clsOf, f_X9_heavyWith, f_X9_heavyWith_0, heavyN, dv4 (show d < 2 ^ 31 by omega), nI_add]
  · simp [clsOf, f_X7_heavyWith, f_X7_heavyWith_0, heavyN]
  · simp [clsOf, f_X8_heavyWith, f_X8_heavyWith_0, heavyN]
    rw [show (10 : Int32) = nI 10 from rfl, pk_mul]
section CVs
variable {N m : Nat} {F : Nat → Nat → Int32} {L : Nat → Nat → Option Nat} {T : Nat → Nat} {P S : Nat → Nat} {D : Nat}
theorem C_lies (h : CV m F L T P S D) {t d : Nat} (hd : d < D) (ht : t < 32) : f_X2_liesOn N (Hp m F L T) (some 4) (nI t) (nI d) = some (bB ((S d).testBit t), Hp m F L T) := by
  obtain ⟨-, -, -, -, -, -, -, -, -, -, -, hs, hD⟩ := h
  obtain ⟨h1, h2⟩ := hs d hd
  simp only [f_X2_liesOn, f_X2_liesOn_0, f_X2_liesOn_18, (gN_8 (show d < 26 by omega)).1, h1, bit1 (show S d < 2 ^ 31 by omega) ht, gI_0, gI_2, gI_4, gI_9, gI_15, gI_21, gI_49, gP_0, gP_2, gP_4, gP_9, gP_15, gP_21, gP_49, gR_0, gR_2, gR_4, gR_9, gR_15, gR_21, gR_49, gL_53, gL_54, oPz_0, oPz_1, Option.bind_some, c10, c01, cm1, c00, if_true, if_false, ne_eq, not_true_eq_false, not_false_eq_true]
  cases (S d).testBit t <;> simp [bB]
theorem C_fresh (h : CV m F L T P S D) {d : Nat} (hd : d < D) : f_X2_isFresh N (Hp m F L T) (some 4) (nI d) = some (bB (freshN P (S d)), Hp m F L T) := by
  obtain ⟨-, -, -, -, -, -, -, -, -, h6, -, hs, hD⟩ := h
  obtain ⟨h1, h2⟩ := hs d hd
  simp only [f_X2_isFresh, f_X2_isFresh_0, f_X2_isFresh_19, (gN_8 (show d < 26 by omega)).1, h1, h6, and0 (show S d < 2 ^ 31 by omega), gI_0, gI_2, gI_4, gI_9, gI_15, gI_21, gI_49, gP_0, gP_2, gP_4, gP_9, gP_15, gP_21, gP_49, gR_0, gR_2, gR_4, gR_9, gR_15, gR_21, gR_49, gL_53, gL_54, oPz_0, oPz_1, Option.bind_some, c10, c01, cm1, c00, if_true, if_false, ne_eq, not_true_eq_false, not_false_eq_true]
  by_cases hf : freshN P (S d) = true
  · rw [if_neg ((fresh_and _ _).mp hf), hf]; simp [bB]
  · have : S d &&& stN P = 0 := by
      rcases Nat.eq_zero_or_pos (S d &&& stN P) with q | q
      · exact q
      · exact absurd ((fresh_and _ _).mpr (by omega)) hf
    rw [if_pos this, (Bool.not_eq_true _).mp hf]; simp [bB]
theorem C_load_l (h : CV m F L T P S D) {d : Nat} (hd : d < D) : ∀ (n i : Nat), i ≤ P 3 → P 3 < i + n → f_X2_loadOn_4 N n (Hp m F L T) (some 4) (nI d) (nI (sumN (fun t => if (S d).testBit t then heavyN (P (5 + 2 * t)) (truN P t) d else 0) i)) (nI i) = some (nI (loadN P (S d) (truN P) d), Hp m F L T) := by
  intro n
  induction n with
  | zero => intro i h1 h2; omega
  | succ n ih =>
    intro i h1 h2
    have hcv := h
    obtain ⟨h3, -, -, -, hk, -, -, -, h4, -, ht, hs, hD⟩ := h
    rw [f_X2_loadOn_4]
    simp only [h4, gI_0, gI_2, gI_4, gI_9, gI_15, gI_21, gI_49, gP_0, gP_2, gP_4, gP_9, gP_15, gP_21, gP_49, gR_0, gR_2, gR_4, gR_9, gR_15, gR_21, gR_49, gL_53, gL_54, oPz_0, oPz_1, Option.bind_some, c10, c01, cm1, c00, if_true, if_false, ne_eq, not_true_eq_false, not_false_eq_true]
    by_cases hi : i = P 3
    · rw [if_pos (by rw [hi]; exact Int32.le_refl _), hi]; rfl
    · have hi' : i < P 3 := by omega
      rw [if_neg (nI_ge hi' (by omega))]
      obtain ⟨t, q1, q2, q3, q4, q5, q6⟩ := ht i hi'
      have q1' : L 7 i = some t := q1
      obtain ⟨k1, k2, k3⟩ := hk i hi'
      have ih' := ih (i + 1) (by omega) (by omega)
      rw [sumN] at ih'
      simp only [gN_7 (show i < 4 by omega), q1', reduceCtorEq, C_lies hcv hd (show i < 32 by omega), f_X2_loadOn_48, nI_1, gI_0, gI_2, gI_4, gI_9, gI_15, gI_21, gI_49, gP_0, gP_2, gP_4, gP_9, gP_15, gP_21, gP_49, gR_0, gR_2, gR_4, gR_9, gR_15, gR_21, gR_49, gL_53, gL_54, oPz_0, oPz_1, Option.bind_some, c10, c01, cm1, c00, if_true, if_false, ne_eq, not_true_eq_false, not_false_eq_true]
      by_cases hb : (S d).testBit i = true
      · rw [hb, bB_t, if_neg (by decide), gT_1 q2 q3 (by rw [q4]; exact isTh_cls _ k2), Option.bind_some, q6, v_heavy q2 q3 q4 k1 k2 k3 (by omega), Option.bind_some]
        simp only [hb, if_true, truN] at ih'
        simp only [nI_add, truN]
        exact ih'
      · have hb' := (Bool.not_eq_true _).mp hb
        rw [hb', bB_f, if_pos rfl]
        simp only [hb', if_false, Bool.false_eq_true, Nat.add_zero] at ih'
        exact ih'
theorem C_load (hN : 5000 ≤ N) (h : CV m F L T P S D) {d : Nat} (hd : d < D) : f_X2_loadOn N (Hp m F L T) (some 4) (nI d) = some (nI (loadN P (S d) (truN P) d), Hp m F L T) :=
  C_load_l h hd N 0 (by omega) (by have := h.1; omega)
theorem C_reach_l (h : CV m F L T P S D) {d kp : Nat} (hd : d < D) (hkp : kp ≤ 3) : ∀ (n i : Nat), i ≤ kp → i ≤ d → kp < i + n → f_X2_reachOf_2 N n (Hp m F L T) (some 4) (nI d) (nI kp) (nI i) = some (nI (i + rcN (fun e => freshN P (S e)) (kp - i) (d - i)), Hp m F L T) := by
  intro n
  induction n with
  | zero => intro i h1 h2 h3; omega
  | succ n ih =>
    intro i h1 h2 h3
    have hD : D ≤ 26 := h.2.2.2.2.2.2.2.2.2.2.2.2
    rw [f_X2_reachOf_2]
    simp only [f_X2_reachOf_29]
    by_cases hi : i = kp
    · subst hi
      rw [if_pos (Int32.le_refl _), Nat.sub_self, rcN, Nat.add_zero]
    · rw [if_neg (nI_ge (by omega) (by omega)), pk_sub h2, show kp - i = (kp - (i + 1)) + 1 by omega, rcN]
      by_cases hz : d - i = 0
      · rw [hz, if_pos (by decide), if_neg (by omega), Nat.add_zero]
      · rw [if_neg (nI_nle (by omega) (by omega))]
        simp only [C_fresh h (show d - i < D by omega), gI_0, gI_2, gI_4, gI_9, gI_15, gI_21, gI_49, gP_0, gP_2, gP_4, gP_9, gP_15, gP_21, gP_49, gR_0, gR_2, gR_4, gR_9, gR_15, gR_21, gR_49, gL_53, gL_54, oPz_0, oPz_1, Option.bind_some, c10, c01, cm1, c00, if_true, if_false, ne_eq, not_true_eq_false, not_false_eq_true]
        by_cases hf : freshN P (S (d - i)) = true
        · rw [hf, bB_t, if_neg (by decide), if_neg (by simp), Nat.add_zero]
        · have hf' := (Bool.not_eq_true _).mp hf
          rw [hf', bB_f, if_pos rfl, nI_1, ih (i + 1) (by omega) (by omega) (by omega), if_pos ⟨by omega, rfl⟩, show d - (i + 1) = d - i - 1 by omega, show i + 1 + rcN (fun e => freshN P (S e)) (kp - (i + 1)) (d - i - 1) = i + (1 + rcN (fun e => freshN P (S e)) (kp - (i + 1)) (d - i - 1)) by omega]
theorem C_reach (hN : 5000 ≤ N) (h : CV m F L T P S D) {d kp : Nat} (hd : d < D) (hkp : kp ≤ 3) : f_X2_reachOf N (Hp m F L T) (some 4) (nI d) (nI kp) = some (nI (rcN (fun e => freshN P (S e)) kp d), Hp m F L T) := by
  have := C_reach_l (N := N) h hd hkp N 0 (by omega) (by omega) (by omega)
  rw [Nat.zero_add, Nat.sub_zero, Nat.sub_zero] at this
  exact this
theorem leftN {A : hP} {a t : Nat} (ha : a < 2 ^ 31) (ht : t < 2 ^ 31) : f_X2_leftOver N A (nI a) (nI t) = some (nI (a % t), A) := by
  simp only [f_X2_leftOver, f_X2_leftOver_0, f_X2_leftOver_11]
  by_cases h : t = 0
  · subst h
    rw [if_pos (by decide), Nat.mod_zero]
  · rw [if_neg (nI_nle (by omega) ht), rmN ha (by omega) ht]
    rfl
theorem C_shown_l (hN : 5000 ≤ N) (h : CV m F L T P S D) {d hf er rc : Nat} {eI : Int32} (hd : d < D) (hhf : hf ≤ 1) (hrc : rc ≤ 3) (hrd : rc ≤ d) (he : ∀ e, e < 26 → (nI e = eI ↔ e = er)) : ∀ (n k : Nat), k ≤ rc + 1 → rc + 1 < k + n → f_X2_shownBy_14 N n (Hp m F L T) (some 4) (nI d) (nI hf) eI (nI (sumN (fun k => (loadN P (S (d - k)) (truN P) (d - k) + if d - k = er then 1 else 0) >>> (k * hf)) k)) (nI rc) (nI k) = some (nI (sumN (fun k => (loadN P (S (d - k)) (truN P) (d - k) + if d - k = er then 1 else 0) >>> (k * hf)) (rc + 1) % P 2), Hp m F L T) := by
  have hD : D ≤ 26 := h.2.2.2.2.2.2.2.2.2.2.2.2
  have hw : ∀ t, t < P 3 → truN P t ≤ 7 := fun t ht => (h.2.2.2.2.1 t ht).2.2
  intro n
  induction n with
  | zero => intro k h1 h2; omega
  | succ n ih =>
    intro k h1 h2
    rw [f_X2_shownBy_14]
    by_cases hk : k = rc + 1
    · subst hk
      rw [if_pos (nI_lt (by omega) (by omega))]
      have hb : sumN (fun k => (loadN P (S (d - k)) (truN P) (d - k) + if d - k = er then 1 else 0) >>> (k * hf)) (rc + 1) ≤ 281 * (rc + 1) := sumN_le (fun k _ => sh_le h.1 hw (by omega))
      have ht := h.2.2.2.1
      simp only [h.2.2.2.2.2.2.2.1, leftN (N := N) (A := Hp m F L T) (show sumN (fun k => (loadN P (S (d - k)) (truN P) (d - k) + if d - k = er then 1 else 0) >>> (k * hf)) (rc + 1) < 2 ^ 31 by omega) (show P 2 < 2 ^ 31 by omega), gI_0, gI_2, gI_4, gI_9, gI_15, gI_21, gI_49, gP_0, gP_2, gP_4, gP_9, gP_15, gP_21, gP_49, gR_0, gR_2, gR_4, gR_9, gR_15, gR_21, gR_49, gL_53, gL_54, oPz_0, oPz_1, Option.bind_some, c10, c01, cm1, c00, if_true, if_false, ne_eq, not_true_eq_false, not_false_eq_true]
    · rw [if_neg (nI_nlt (show k ≤ rc by omega) (by omega))]
      have ih' := ih (k + 1) (by omega) (by omega)
      rw [sumN] at ih'
      have hl : loadN P (S (d - k)) (truN P) (d - k) ≤ 280 := load_le h.1 hw (by omega)
      have em : nI k * nI hf &&& 31 = nI (k * hf) &&& 31 := by rw [pk_mul]
      have hkh : k * hf ≤ 3 := by
        rcases (show hf = 0 ∨ hf = 1 by omega) with q | q <;> rw [q] <;> omega
      simp only [pk_sub (show k ≤ d by omega), C_load hN h (show d - k < D by omega), f_X2_shownBy_43, he (d - k) (by omega), em, nI_1, gI_0, gI_2, gI_4, gI_9, gI_15, gI_21, gI_49, gP_0, gP_2, gP_4, gP_9, gP_15, gP_21, gP_49, gR_0, gR_2, gR_4, gR_9, gR_15, gR_21, gR_49, gL_53, gL_54, oPz_0, oPz_1, Option.bind_some, c10, c01, cm1, c00, if_true, if_false, ne_eq, not_true_eq_false, not_false_eq_true]
      by_cases hq : d - k = er
      · rw [if_pos hq, shrN (by omega) (by omega), nI_add]
        rw [if_pos hq, Nat.shiftRight_eq_div_pow] at ih'
        exact ih'
      · rw [if_neg hq, shrN (by omega) (by omega), nI_add]
        rw [if_neg hq, Nat.add_zero, Nat.shiftRight_eq_div_pow] at ih'
        exact ih'
theorem C_shownBy (hN : 5000 ≤ N) (h : CV m F L T P S D) {d kp hf er : Nat} {eI : Int32} (hd : d < D) (hkp : kp ≤ 3) (hhf : hf ≤ 1) (he : ∀ e, e < 26 → (nI e = eI ↔ e = er)) : f_X2_shownBy N (Hp m F L T) (some 4) (nI d) (nI kp) (nI hf) eI = some (nI (shN P S (truN P) kp hf er d), Hp m F L T) := by
  have h1 := rcN_le (fun e => freshN P (S e)) kp d
  have h2 := rcN_le2 (fun e => freshN P (S e)) kp d
  have := C_shown_l (N := N) hN h (rc := rcN (fun e => freshN P (S e)) kp d) hd hhf (by omega) h2 he N 0 (by omega) (by omega)
  simp only [f_X2_shownBy, f_X2_shownBy_0, C_reach hN h hd hkp, gI_0, gI_2, gI_4, gI_9, gI_15, gI_21, gI_49, gP_0, gP_2, gP_4, gP_9, gP_15, gP_21, gP_49, gR_0, gR_2, gR_4, gR_9, gR_15, gR_21, gR_49, gL_53, gL_54, oPz_0, oPz_1, Option.bind_some, c10, c01, cm1, c00, if_true, if_false, ne_eq, not_true_eq_false, not_false_eq_true]
  exact this
theorem em1 : ∀ e, e < 26 → (nI e = -1 ↔ e = 1000) := by decide
theorem C_shownOn (hN : 5000 ≤ N) (h : CV m F L T P S D) {d : Nat} (hd : d < D) : f_X2_shownOn N (Hp m F L T) (some 4) (nI d) = some (nI (shT P S d), Hp m F L T) := by
  have := C_shownBy hN h hd h.2.1 h.2.2.1 em1
  simp only [f_X2_shownOn, f_X2_shownOn_0, h.2.2.2.2.2.1, h.2.2.2.2.2.2.1, this, gI_0, gI_2, gI_4, gI_9, gI_15, gI_21, gI_49, gP_0, gP_2, gP_4, gP_9, gP_15, gP_21, gP_49, gR_0, gR_2, gR_4, gR_9, gR_15, gR_21, gR_49, gL_53, gL_54, oPz_0, oPz_1, Option.bind_some, c10, c01, cm1, c00, if_true, if_false, ne_eq, not_true_eq_false, not_false_eq_true]
  rfl
end CVs
