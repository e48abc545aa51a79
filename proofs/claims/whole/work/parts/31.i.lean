-- THE REFERENCE'S VIEW of its port, with sets S on D days, and what it has laid
def MV (F : Nat → Nat → Int32) (P S : Nat → Nat) (D : Nat) : Prop :=
  P 3 ≤ 4 ∧ P 2 ≤ 200 ∧ (∀ i, i < P 3 → 1 ≤ P (5 + 2 * i) ∧ P (5 + 2 * i) ≤ 5 ∧ P (6 + 2 * i) ≤ 7) ∧ F 53 2 = nI (P 2) ∧ F 53 3 = nI (P 3) ∧ (∀ i, i < P 3 → F 53 (5 + 2 * i) = nI (P (5 + 2 * i))) ∧ (∀ d, d < D → F 53 (13 + d) = nI (S d) ∧ S d < 16) ∧ D ≤ 26
def MW (F : Nat → Nat → Int32) (P w : Nat → Nat) (kp hf er : Nat) : Prop :=
  (∀ t, t < P 3 → F 56 t = nI (w t) ∧ w t ≤ 7) ∧ F 49 18 = nI kp ∧ kp ≤ 3 ∧ F 49 19 = nI hf ∧ hf ≤ 1 ∧ ∀ e, e < 26 → (nI e = F 49 20 ↔ e = er)
section MVs
variable {N m : Nat} {F : Nat → Nat → Int32} {L : Nat → Nat → Option Nat} {T : Nat → Nat} {P S w : Nat → Nat} {D kp hf er : Nat}
theorem M_heavy (h : MV F P S D) {t d : Nat} (ht : t < P 3) (hw : F 56 t = nI (w t) ∧ w t ≤ 7) (hd : d ≤ 99) : f_X12_heavyOn N (Hp m F L T) (some 49) (nI t) (nI d) = some (nI (heavyN (P (5 + 2 * t)) (w t) d), Hp m F L T) := by
  obtain ⟨h3, -, hk, -, -, h6, -, -⟩ := h
  obtain ⟨hw1, hw2⟩ := hw
  obtain ⟨k1, k5, -⟩ := hk t ht
  have e := h6 t ht
  have g := (gN_56 (m := m) (F := F) (L := L) (T := T) (show t < 4 by omega)).1
  rw [hw1] at g
  generalize P (5 + 2 * t) = k at *
  generalize w t = v at *
  simp only [f_X12_heavyOn, f_X12_heavyOn_0, f_X12_kindOf, f_X12_kindOf_0, f_X12_heavyOn_62, ix5, (gN_53 (show 5 + 2 * t < 39 by omega)).1, e, g, dv3 (show d < 2 ^ 31 by omega), dv4 (show d < 2 ^ 31 by omega), gI_0, gI_2, gI_4, gI_9, gI_15, gI_21, gI_49, gP_0, gP_2, gP_4, gP_9, gP_15, gP_21, gP_49, gR_0, gR_2, gR_4, gR_9, gR_15, gR_21, gR_49, gL_53, gL_54, oPz_0, oPz_1, Option.bind_some, c10, c01, cm1, c00, if_true, if_false, ne_eq, not_true_eq_false, not_false_eq_true]
  rcases (show k = 1 ∨ k = 2 ∨ k = 3 ∨ k = 4 ∨ k = 5 by omega) with rfl | rfl | rfl | rfl | rfl
  · simp [heavyN, show ¬ nI 1 = 2 by decide, show ¬ nI 1 = 3 by decide, show ¬ nI 1 = 4 by decide, show ¬ nI 1 = 5 by decide]
  · rw [if_pos (show nI 2 = 2 by decide)]
    unfold heavyN
    rw [if_pos rfl]
    by_cases hq : d / 3 ≤ v
    · rw [if_pos (nI_le hq (by omega)), pk_sub hq]
    · rw [if_neg (nI_ge (by omega) (by omega)), show v - d / 3 = 0 by omega]
      rfl
  · rw [if_neg (show ¬ nI 3 = 2 by decide), if_pos (show nI 3 = 3 by decide), nI_add]
    rfl
  · simp [heavyN, show ¬ nI 4 = 2 by decide, show ¬ nI 4 = 3 by decide, show nI 4 = 4 by decide]
  · rw [if_neg (show ¬ nI 5 = 2 by decide), if_neg (show ¬ nI 5 = 3 by decide), if_neg (show ¬ nI 5 = 4 by decide), if_pos (show nI 5 = 5 by decide), show (10 : Int32) = nI 10 from rfl, pk_mul]
    rfl
theorem bB_1 (b : Bool) : bB b = 1 ↔ b = true := by cases b <;> simp [bB]
theorem bB_0 (b : Bool) : bB b = 0 ↔ b = false := by cases b <;> simp [bB]
theorem M_load_l (h : MV F P S D) (hw : ∀ t, t < P 3 → F 56 t = nI (w t) ∧ w t ≤ 7) {d c : Nat} (hd : d < D) : ∀ (n i : Nat), i ≤ P 3 → P 3 < i + n → f_X12_loadOn_16 N n (Hp m F L T) (some 49) (nI d) (nI (sumN (fun t => if (S d).testBit t then heavyN (P (5 + 2 * t)) (w t) d else 0) i + c)) (nI i) = some (nI (loadN P (S d) w d + c), Hp m F L T) := by
  intro n
  induction n with
  | zero => intro i h1 h2; omega
  | succ n ih =>
    intro i h1 h2
    have hcv := h
    obtain ⟨h3, -, hk, -, h4, h6, hs, hD⟩ := h
    rw [f_X12_loadOn_16]
    simp only [h4, gI_0, gI_2, gI_4, gI_9, gI_15, gI_21, gI_49, gP_0, gP_2, gP_4, gP_9, gP_15, gP_21, gP_49, gR_0, gR_2, gR_4, gR_9, gR_15, gR_21, gR_49, gL_53, gL_54, oPz_0, oPz_1, Option.bind_some, c10, c01, cm1, c00, if_true, if_false, ne_eq, not_true_eq_false, not_false_eq_true]
    by_cases hi : i = P 3
    · rw [if_pos (by rw [hi]; exact Int32.le_refl _), hi]; rfl
    · have hi' : i < P 3 := by omega
      rw [if_neg (nI_ge hi' (by omega))]
      obtain ⟨s1, s2⟩ := hs d hd
      have ih' := ih (i + 1) (by omega) (by omega)
      rw [sumN] at ih'
      simp only [ix13, (gN_53 (show 13 + d < 39 by omega)).1, s1, bit1 (show S d < 2 ^ 31 by omega) (show i < 32 by omega), bB_1, M_heavy hcv hi' (hw i hi') (show d ≤ 99 by omega), f_X12_loadOn_54, nI_1, gI_0, gI_2, gI_4, gI_9, gI_15, gI_21, gI_49, gP_0, gP_2, gP_4, gP_9, gP_15, gP_21, gP_49, gR_0, gR_2, gR_4, gR_9, gR_15, gR_21, gR_49, gL_53, gL_54, oPz_0, oPz_1, Option.bind_some, c10, c01, cm1, c00, if_true, if_false, ne_eq, not_true_eq_false, not_false_eq_true]
      by_cases hb : (S d).testBit i = true
      · rw [if_pos hb, nI_add]
        rw [if_pos hb, Nat.add_right_comm] at ih'
        exact ih'
      · rw [if_neg hb, Int32.add_zero]
        rw [if_neg hb, Nat.add_zero] at ih'
        exact ih'
theorem M_load (hN : 5000 ≤ N) (h : MV F P S D) (hw : MW F P w kp hf er) {d : Nat} (hd : d < D) : f_X12_loadOn N (Hp m F L T) (some 49) (nI d) = some (nI (loadN P (S d) w d + if d = er then 1 else 0), Hp m F L T) := by
  obtain ⟨w1, -, -, -, -, w2⟩ := hw
  have h3 := h.1
  have hD : D ≤ 26 := h.2.2.2.2.2.2.2
  simp only [f_X12_loadOn, f_X12_loadOn_0, f_X12_loadOn_13, w2 d (by omega), gI_0, gI_2, gI_4, gI_9, gI_15, gI_21, gI_49, gP_0, gP_2, gP_4, gP_9, gP_15, gP_21, gP_49, gR_0, gR_2, gR_4, gR_9, gR_15, gR_21, gR_49, gL_53, gL_54, oPz_0, oPz_1, Option.bind_some, c10, c01, cm1, c00, if_true, if_false, ne_eq, not_true_eq_false, not_false_eq_true]
  by_cases hq : d = er
  · rw [if_pos hq, if_pos hq]
    have := M_load_l (N := N) (m := m) (L := L) (T := T) (c := 1) h w1 hd N 0 (by omega) (by omega)
    rw [sumN] at this
    exact this
  · rw [if_neg hq, if_neg hq]
    have := M_load_l (N := N) (m := m) (L := L) (T := T) (c := 0) h w1 hd N 0 (by omega) (by omega)
    rw [sumN] at this
    exact this
theorem M_fresh_l (h : MV F P S D) {d : Nat} (hd : d < D) : ∀ (n i : Nat), i ≤ P 3 → P 3 < i + n → f_X12_isFresh_4 N n (Hp m F L T) (some 49) (nI d) (bB (anyN (fun t => (S d).testBit t && decide (P (5 + 2 * t) = 4)) i)) (nI i) = some (bB (freshN P (S d)), Hp m F L T) := by
  intro n
  induction n with
  | zero => intro i h1 h2; omega
  | succ n ih =>
    intro i h1 h2
    obtain ⟨h3, -, hk, -, h4, h6, hs, hD⟩ := h
    rw [f_X12_isFresh_4]
    simp only [h4, gI_0, gI_2, gI_4, gI_9, gI_15, gI_21, gI_49, gP_0, gP_2, gP_4, gP_9, gP_15, gP_21, gP_49, gR_0, gR_2, gR_4, gR_9, gR_15, gR_21, gR_49, gL_53, gL_54, oPz_0, oPz_1, Option.bind_some, c10, c01, cm1, c00, if_true, if_false, ne_eq, not_true_eq_false, not_false_eq_true]
    by_cases hi : i = P 3
    · rw [if_pos (by rw [hi]; exact Int32.le_refl _), hi, if_pos (bB_or _)]; rfl
    · have hi' : i < P 3 := by omega
      rw [if_neg (nI_ge hi' (by omega))]
      obtain ⟨s1, s2⟩ := hs d hd
      have ih' := ih (i + 1) (by omega) (by omega)
      rw [anyN] at ih'
      have ek : nI (P (5 + 2 * i)) = 4 ↔ P (5 + 2 * i) = 4 := by
        have := (hk i hi').2.1
        exact nI_eq (b := 4) (by omega) (by decide)
      simp only [ix13, (gN_53 (show 13 + d < 39 by omega)).1, s1, bit1 (show S d < 2 ^ 31 by omega) (show i < 32 by omega), bB_1, bB_0, f_X12_kindOf, f_X12_kindOf_0, ix5, (gN_53 (show 5 + 2 * i < 39 by omega)).1, h6 i hi', ek, f_X12_isFresh_44, f_X12_isFresh_48, f_X12_isFresh_49, nI_1, gI_0, gI_2, gI_4, gI_9, gI_15, gI_21, gI_49, gP_0, gP_2, gP_4, gP_9, gP_15, gP_21, gP_49, gR_0, gR_2, gR_4, gR_9, gR_15, gR_21, gR_49, gL_53, gL_54, oPz_0, oPz_1, Option.bind_some, c10, c01, cm1, c00, if_true, if_false, ne_eq, not_true_eq_false, not_false_eq_true]
      by_cases ha : anyN (fun t => (S d).testBit t && decide (P (5 + 2 * t) = 4)) i = true
      · rw [if_neg (by rw [ha]; decide)]
        rw [ha, Bool.true_or] at ih'
        exact ih'
      · have ha' := (Bool.not_eq_true _).mp ha
        rw [if_pos ha']
        rw [ha', Bool.false_or] at ih'
        by_cases hb : (S d).testBit i = true
        · rw [if_pos hb]
          rw [hb, Bool.true_and] at ih'
          by_cases hc : P (5 + 2 * i) = 4
          · rw [if_pos hc]
            rw [decide_eq_true hc] at ih'
            exact ih'
          · rw [if_neg hc]
            rw [decide_eq_false hc] at ih'
            exact ih'
        · rw [if_neg hb]
          rw [(Bool.not_eq_true _).mp hb, Bool.false_and] at ih'
          exact ih'
theorem M_fresh (hN : 5000 ≤ N) (h : MV F P S D) {d : Nat} (hd : d < D) : f_X12_isFresh N (Hp m F L T) (some 49) (nI d) = some (bB (freshN P (S d)), Hp m F L T) := by
  have h3 := h.1
  exact M_fresh_l h hd N 0 (by omega) (by omega)
theorem M_shows_l (hN : 5000 ≤ N) (h : MV F P S D) (h2 : P 2 ≠ 0) (hw : MW F P w kp hf er) {d : Nat} (hd : d < D) : ∀ (n k : Nat), 1 ≤ k → k ≤ d + 1 → k ≤ kp + 1 → kp + 1 < k + n → f_X12_shows_11 N n (Hp m F L T) (some 49) (nI (sumN (fun k => (loadN P (S (d - k)) w (d - k) + if d - k = er then 1 else 0) >>> (k * hf)) k)) (nI (d + 1 - k)) (nI k) = some (nI (sumN (fun k => (loadN P (S (d - k)) w (d - k) + if d - k = er then 1 else 0) >>> (k * hf)) (k + rcN (fun e => freshN P (S e)) (kp + 1 - k) (d + 1 - k)) % P 2), Hp m F L T) := by
  have hD : D ≤ 26 := h.2.2.2.2.2.2.2
  have hwl : ∀ t, t < P 3 → w t ≤ 7 := fun t ht => (hw.1 t ht).2
  have htp := h.2.1
  have hkp := hw.2.2.1
  have hhf := hw.2.2.2.2.1
  have hend : ∀ c, c ≤ 4 → f_X12_shows_68 N (Hp m F L T) (some 49) (nI (sumN (fun k => (loadN P (S (d - k)) w (d - k) + if d - k = er then 1 else 0) >>> (k * hf)) c)) = some (nI (sumN (fun k => (loadN P (S (d - k)) w (d - k) + if d - k = er then 1 else 0) >>> (k * hf)) c % P 2), Hp m F L T) := by
    intro c hc
    have hb : sumN (fun k => (loadN P (S (d - k)) w (d - k) + if d - k = er then 1 else 0) >>> (k * hf)) c ≤ 281 * c := sumN_le (fun k _ => sh_le h.1 hwl (by omega))
    simp only [f_X12_shows_68, h.2.2.2.1, rmN (show sumN (fun k => (loadN P (S (d - k)) w (d - k) + if d - k = er then 1 else 0) >>> (k * hf)) c < 2 ^ 31 by omega) (show 0 < P 2 by omega) (show P 2 < 2 ^ 31 by omega), gI_0, gI_2, gI_4, gI_9, gI_15, gI_21, gI_49, gP_0, gP_2, gP_4, gP_9, gP_15, gP_21, gP_49, gR_0, gR_2, gR_4, gR_9, gR_15, gR_21, gR_49, gL_53, gL_54, oPz_0, oPz_1, Option.bind_some, c10, c01, cm1, c00, if_true, if_false, ne_eq, not_true_eq_false, not_false_eq_true]
  intro n
  induction n with
  | zero => intro k h1 h2 h3 h4; omega
  | succ n ih =>
    intro k h1 h2 h3 h4
    rw [f_X12_shows_11]
    simp only [hw.2.1, gI_0, gI_2, gI_4, gI_9, gI_15, gI_21, gI_49, gP_0, gP_2, gP_4, gP_9, gP_15, gP_21, gP_49, gR_0, gR_2, gR_4, gR_9, gR_15, gR_21, gR_49, gL_53, gL_54, oPz_0, oPz_1, Option.bind_some, c10, c01, cm1, c00, if_true, if_false, ne_eq, not_true_eq_false, not_false_eq_true]
    by_cases hk : k = kp + 1
    · rw [if_pos (nI_lt (by omega) (by omega)), hend k (by omega), hk, Nat.sub_self, rcN, Nat.add_zero]
    · rw [if_neg (nI_nlt (by omega) (by omega)), show kp + 1 - k = (kp + 1 - (k + 1)) + 1 by omega, rcN]
      by_cases hz : d + 1 - k = 0
      · rw [hz, if_pos (by decide), hend k (by omega), if_neg (by omega), Nat.add_zero]
      · rw [if_neg (nI_nle (by omega) (by omega))]
        have e1 : nI (d + 1 - k) + -1 = nI (d - k) := by
          rw [show d + 1 - k = (d - k) + 1 by omega, pk_m1]
        simp only [M_fresh hN h (show d + 1 - k < D by omega), e1, bB_0, M_load hN h hw (show d - k < D by omega), f_X12_shows_60, hw.2.2.2.1, nI_1, gI_0, gI_2, gI_4, gI_9, gI_15, gI_21, gI_49, gP_0, gP_2, gP_4, gP_9, gP_15, gP_21, gP_49, gR_0, gR_2, gR_4, gR_9, gR_15, gR_21, gR_49, gL_53, gL_54, oPz_0, oPz_1, Option.bind_some, c10, c01, cm1, c00, if_true, if_false, ne_eq, not_true_eq_false, not_false_eq_true]
        by_cases hf' : freshN P (S (d + 1 - k)) = true
        · rw [if_neg (by rw [hf']; decide), hend k (by omega), if_neg (by rw [hf']; simp), Nat.add_zero]
        · have hf2 := (Bool.not_eq_true _).mp hf'
          have hrc : (if 0 < d + 1 - k ∧ freshN P (S (d + 1 - k)) = false then 1 + rcN (fun e => freshN P (S e)) (kp + 1 - (k + 1)) (d + 1 - k - 1) else 0) = 1 + rcN (fun e => freshN P (S e)) (kp + 1 - (k + 1)) (d + 1 - k - 1) := if_pos ⟨by omega, hf2⟩
          rw [if_pos hf2, hrc]
          have ih' := ih (k + 1) (by omega) (by omega) (by omega) (by omega)
          rw [sumN, show d + 1 - (k + 1) = d - k by omega, show k + 1 + rcN (fun e => freshN P (S e)) (kp + 1 - (k + 1)) (d - k) = k + (1 + rcN (fun e => freshN P (S e)) (kp + 1 - (k + 1)) (d - k)) by omega] at ih'
          rw [show d + 1 - k - 1 = d - k by omega]
          have hl : loadN P (S (d - k)) w (d - k) ≤ 280 := load_le h.1 hwl (by omega)
          have hl2 : (loadN P (S (d - k)) w (d - k) + if d - k = er then 1 else 0) ≤ 281 := by split <;> omega
          rcases (show hf = 0 ∨ hf = 1 by omega) with q | q
          · subst q
            rw [if_neg (show ¬ nI 0 = 1 by decide), nI_add]
            simp only [Nat.mul_zero, Nat.shiftRight_zero] at ih' ⊢
            exact ih'
          · subst q
            rw [if_pos (show nI 1 = 1 by decide), shrN (by omega) (by omega), nI_add]
            simp only [Nat.mul_one, Nat.shiftRight_eq_div_pow] at ih' ⊢
            exact ih'
theorem M_shows (hN : 5000 ≤ N) (h : MV F P S D) (h2 : P 2 ≠ 0) (hw : MW F P w kp hf er) {d : Nat} (hd : d < D) : f_X12_shows N (Hp m F L T) (some 49) (nI d) = some (nI (shN P S w kp hf er d), Hp m F L T) := by
  have hkp := hw.2.2.1
  have := M_shows_l (N := N) (m := m) (L := L) (T := T) hN h h2 hw hd N 1 (by omega) (by omega) (by omega) (by omega)
  rw [sumN, sumN, Nat.zero_mul, Nat.shiftRight_zero, Nat.sub_zero, Nat.zero_add, Nat.add_sub_cancel, Nat.add_sub_cancel, Nat.add_comm 1] at this
  simp only [f_X12_shows, f_X12_shows_0, M_load hN h hw hd, gI_0, gI_2, gI_4, gI_9, gI_15, gI_21, gI_49, gP_0, gP_2, gP_4, gP_9, gP_15, gP_21, gP_49, gR_0, gR_2, gR_4, gR_9, gR_15, gR_21, gR_49, gL_53, gL_54, oPz_0, oPz_1, Option.bind_some, c10, c01, cm1, c00, if_true, if_false, ne_eq, not_true_eq_false, not_false_eq_true]
  exact this
theorem M_truly_l (h3 : P 3 ≤ 4) (h4 : F 53 3 = nI (P 3)) (hq : ∀ i, i < P 3 → F 53 (6 + 2 * i) = nI (P (6 + 2 * i))) : ∀ (n i : Nat) (G : Nat → Nat → Int32), (∀ p, p ≠ 56 → G p = F p) → (∀ t, t < i → G 56 t = nI (P (6 + 2 * t))) → i ≤ P 3 → P 3 < i + n → ∃ G', f_X12_layTruly_2 N n (Hp m G L T) (some 49) (nI i) = some ((), Hp m G' L T) ∧ (∀ p, p ≠ 56 → p ≠ 49 → G' p = F p) ∧ (∀ k, k ≠ 18 → k ≠ 19 → k ≠ 20 → G' 49 k = F 49 k) ∧ (∀ t, t < P 3 → G' 56 t = nI (P (6 + 2 * t))) ∧ G' 49 18 = F 53 0 ∧ G' 49 19 = F 53 1 ∧ G' 49 20 = -1000000 := by
  intro n
  induction n with
  | zero => intro i G g1 g2 h1 h2; omega
  | succ n ih =>
    intro i G g1 g2 h1 h2
    rw [f_X12_layTruly_2]
    have e3 : G 53 3 = nI (P 3) := by rw [g1 53 (by decide)]; exact h4
    simp only [e3, gI_0, gI_2, gI_4, gI_9, gI_15, gI_21, gI_49, gP_0, gP_2, gP_4, gP_9, gP_15, gP_21, gP_49, gR_0, gR_2, gR_4, gR_9, gR_15, gR_21, gR_49, gL_53, gL_54, oPz_0, oPz_1, Option.bind_some, c10, c01, cm1, c00, if_true, if_false, ne_eq, not_true_eq_false, not_false_eq_true]
    by_cases hi : i = P 3
    · rw [if_pos (by rw [hi]; exact Int32.le_refl _)]
      refine ⟨up2 (up2 (up2 G 49 18 (G 53 0)) 49 19 (G 53 1)) 49 20 (-1000000), ?_, fun p p1 p2 => ?_, fun k k1 k2 k3 => ?_, fun t ht => ?_, ?_, ?_, ?_⟩
      · rw [show up2 G 49 18 (G 53 0) 53 1 = G 53 1 by simp (disch := omega) only [up2_ne, up2_o, up2_s]]
      · simp (disch := omega) only [up2_ne, up2_o, up2_s]; exact g1 p p1
      · simp (disch := omega) only [up2_ne, up2_o, up2_s]; rw [g1 49 (by decide)]
      · simp (disch := omega) only [up2_ne, up2_o, up2_s]; exact g2 t (by omega)
      · simp (disch := omega) only [up2_ne, up2_o, up2_s]; rw [g1 53 (by decide)]
      · simp (disch := omega) only [up2_ne, up2_o, up2_s]; rw [g1 53 (by decide)]
      · simp (disch := omega) only [up2_ne, up2_o, up2_s]
    · have hi' : i < P 3 := by omega
      rw [if_neg (nI_ge hi' (by omega))]
      obtain ⟨G', r1, r2⟩ := ih (i + 1) (up2 G 56 i (nI (P (6 + 2 * i)))) (fun p hp => by rw [up2_ne hp]; exact g1 p hp) (fun t ht => by
        by_cases hti : t = i
        · subst hti; rw [up2_s]
        · rw [up2_o hti]; exact g2 t (by omega)) (by omega) (by omega)
      refine ⟨G', ?_, r2⟩
      have e4 : G 53 (6 + 2 * i) = nI (P (6 + 2 * i)) := by rw [g1 53 (by decide)]; exact hq i hi'
      simp only [ix6, (gN_53 (show 6 + 2 * i < 39 by omega)).1, e4, (gN_56 (show i < 4 by omega)).2, nI_1, gI_0, gI_2, gI_4, gI_9, gI_15, gI_21, gI_49, gP_0, gP_2, gP_4, gP_9, gP_15, gP_21, gP_49, gR_0, gR_2, gR_4, gR_9, gR_15, gR_21, gR_49, gL_53, gL_54, oPz_0, oPz_1, Option.bind_some, c10, c01, cm1, c00, if_true, if_false, ne_eq, not_true_eq_false, not_false_eq_true]
      exact r1
end MVs
