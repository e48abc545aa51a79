theorem up_up {α : Type} (F : Nat → α) (p : Nat) (v w : α) : up (up F p v) p w = up F p w := by
  funext q
  unfold up
  split <;> rfl
def clr (f : Nat → Int32) (a b : Nat) : Nat → Int32 := fun k => if a ≤ k ∧ k < b then 0 else f k
theorem clr_0 (f : Nat → Int32) (b : Nat) : clr f b b = f := by
  funext k
  unfold clr
  rw [if_neg (by omega)]
theorem clr_s (f : Nat → Int32) {a b : Nat} (h : a < b) : clr (upd f a 0) (a + 1) b = clr f a b := by
  funext k
  unfold clr upd
  by_cases h1 : k = a
  · subst h1; simp [h]
  · by_cases h2 : a ≤ k ∧ k < b
    · rw [if_pos ⟨by omega, h2.2⟩, if_pos h2]
    · rw [if_neg (by omega), if_neg h2, if_neg h1]
theorem up_n2 {α : Type} {F : Nat → α} {p q : Nat} {v : α} (h : q ≠ p) : up F p v q = F q := if_neg h
theorem X3_clear {N m r : Nat} {L : Nat → Nat → Option Nat} {T : Nat → Nat} (hr : r < 8) : ∀ (n i : Nat) (F : Nat → Nat → Int32), i ≤ 40 → 40 < i + n → f_X3_begin_17 N n (Hp m F L T) (some (23 + 2 * r)) (nI i) = some ((), Hp m (up F (24 + 2 * r) (clr (F (24 + 2 * r)) i 40)) L T) := by
  intro n
  induction n with
  | zero => intro i F h1 h2; omega
  | succ n ih =>
    intro i F h1 h2
    rw [f_X3_begin_17]
    by_cases hi : i = 40
    · subst hi
      rw [if_pos (by decide), clr_0, up_id]
    · have hi' : i < 40 := by omega
      have hk : ¬ (40 : Int32) ≤ nI i := nI_ge (a := i) (b := 40) hi' (by omega)
      rw [if_neg hk]
      simp only [gR_r hr, (gN_r hr hi').2, Option.bind_some]
      rw [nI_1, ih (i + 1) _ (by omega) (by omega)]
      have e : up (up2 F (24 + 2 * r) i 0) (24 + 2 * r) (clr (up2 F (24 + 2 * r) i 0 (24 + 2 * r)) (i + 1) 40) = up F (24 + 2 * r) (clr (F (24 + 2 * r)) i 40) := by
        unfold up2
        rw [up_s, up_up, clr_s _ hi']
      rw [e]
theorem X12_clear {N m r : Nat} {x : Int32} {L : Nat → Nat → Option Nat} {T : Nat → Nat} (hr : r < 8) : ∀ (n i : Nat) (F : Nat → Nat → Int32), i ≤ 40 → 40 < i + n → f_X12_row_65 N n (Hp m F L T) (some 49) (nI r) x (nI i) = some (x, Hp m (up F 52 (clr (F 52) (40 * r + i) (40 * r + 40))) L T) := by
  intro n
  induction n with
  | zero => intro i F h1 h2; omega
  | succ n ih =>
    intro i F h1 h2
    rw [f_X12_row_65]
    by_cases hi : i = 40
    · subst hi
      rw [if_pos (by decide), clr_0, up_id]
    · have hi' : i < 40 := by omega
      have hk : ¬ (40 : Int32) ≤ nI i := nI_ge (a := i) (b := 40) hi' (by omega)
      rw [if_neg hk]
      simp only [gR_49, ix40, (gN_52 (show 40 * r + i < 320 by omega)).2, Option.bind_some]
      rw [nI_1, ih (i + 1) _ (by omega) (by omega)]
      have e : up (up2 F 52 (40 * r + i) 0) 52 (clr (up2 F 52 (40 * r + i) 0 52) (40 * r + (i + 1)) (40 * r + 40)) = up F 52 (clr (F 52) (40 * r + i) (40 * r + 40)) := by
        unfold up2
        rw [up_s, up_up, ← Nat.add_assoc, clr_s _ (by omega)]
      rw [e]
theorem X12_in02 {N : Nat} {A : hP} {b : Int32} : f_X12_in N A b.toInt64 (0 : Int64) (2 : Int64) = some (bI ((0 : Int32) ≤ b ∧ b ≤ 2), A) := X12_in32 N A b 0 2
theorem o_row (N : Nat) (hN : 5000 ≤ N) (m : Nat) (F : Nat → Nat → Int32) (L : Nat → Nat → Option Nat) (T : Nat → Nat) (hm : m ≤ 3000) (R : Rel m F L T) (a b c : Int32) : OpOk (fun A => f_X11_row N A (some 0) a b c) (fun A => f_X12_row N A (some 49) a b c) m F L T := by
  have bad : (a < 0 ∨ nI 8 ≤ a) → OpOk (fun A => f_X11_row N A (some 0) a b c) (fun A => f_X12_row N A (some 49) a b c) m F L T := by
    intro h
    refine ⟨-1000001, m, F, L, T, up2 F 49 0 0, ?_, ?_, R.thr 0, by omega⟩
    · simp only [f_X11_row, f_X11_row_0, f_X11_row_22, X11_isRow_n h, gI_0, gI_2, gI_4, gI_9, gI_15, gI_21, gI_49, gP_0, gP_2, gP_4, gP_9, gP_15, gP_21, gP_49, gR_0, gR_2, gR_4, gR_9, gR_15, gR_21, gR_49, gL_53, gL_54, oPz_0, oPz_1, Option.bind_some, c10, c01, cm1, c00, if_true, if_false, ne_eq, not_true_eq_false, not_false_eq_true]
    · simp only [f_X12_row, f_X12_row_0, f_X12_row_30, X12_isRow_n h, gI_0, gI_2, gI_4, gI_9, gI_15, gI_21, gI_49, gP_0, gP_2, gP_4, gP_9, gP_15, gP_21, gP_49, gR_0, gR_2, gR_4, gR_9, gR_15, gR_21, gR_49, gL_53, gL_54, oPz_0, oPz_1, Option.bind_some, c10, c01, cm1, c00, if_true, if_false, ne_eq, not_true_eq_false, not_false_eq_true]
  rcases pk_ix a (n := 8) (by decide) with h | h | ⟨r, hr, rfl⟩
  · exact bad (Or.inl h)
  · exact bad (Or.inr h)
  by_cases hb : (0 : Int32) ≤ b ∧ b ≤ 2
  case neg =>
    refine ⟨-1000001, m, F, L, T, up2 F 49 0 0, ?_, ?_, R.thr 0, by omega⟩
    · by_cases hb0 : b < 0
      · simp only [f_X11_row, f_X11_row_0, f_X11_row_22, X11_isRow_y hr, hb0, gI_0, gI_2, gI_4, gI_9, gI_15, gI_21, gI_49, gP_0, gP_2, gP_4, gP_9, gP_15, gP_21, gP_49, gR_0, gR_2, gR_4, gR_9, gR_15, gR_21, gR_49, gL_53, gL_54, oPz_0, oPz_1, Option.bind_some, c10, c01, cm1, c00, if_true, if_false, ne_eq, not_true_eq_false, not_false_eq_true]
      · have hb2 : (2 : Int32) < b := by
          rcases Int32.lt_or_le 2 b with q | q
          · exact q
          · exact absurd ⟨Int32.not_lt.mp hb0, q⟩ hb
        simp only [f_X11_row, f_X11_row_0, f_X11_row_22, X11_isRow_y hr, hb0, hb2, gI_0, gI_2, gI_4, gI_9, gI_15, gI_21, gI_49, gP_0, gP_2, gP_4, gP_9, gP_15, gP_21, gP_49, gR_0, gR_2, gR_4, gR_9, gR_15, gR_21, gR_49, gL_53, gL_54, oPz_0, oPz_1, Option.bind_some, c10, c01, cm1, c00, if_true, if_false, ne_eq, not_true_eq_false, not_false_eq_true]
    · simp only [f_X12_row, f_X12_row_0, f_X12_row_30, X12_isRow_y hr, X12_in02, bI_f hb, gI_0, gI_2, gI_4, gI_9, gI_15, gI_21, gI_49, gP_0, gP_2, gP_4, gP_9, gP_15, gP_21, gP_49, gR_0, gR_2, gR_4, gR_9, gR_15, gR_21, gR_49, gL_53, gL_54, oPz_0, oPz_1, Option.bind_some, c10, c01, cm1, c00, if_true, if_false, ne_eq, not_true_eq_false, not_false_eq_true]
  have hb0 : ¬ b < 0 := Int32.not_lt.mpr hb.1
  have hb2 : ¬ (2 : Int32) < b := Int32.not_lt.mpr hb.2
  by_cases hc : c ≤ 40
  case neg =>
    refine ⟨-1000001, m, F, L, T, up2 F 49 0 0, ?_, ?_, R.thr 0, by omega⟩
    · simp only [f_X11_row, f_X11_row_0, f_X11_row_22, X11_isRow_y hr, hb0, hb2, hc, gI_0, gI_2, gI_4, gI_9, gI_15, gI_21, gI_49, gP_0, gP_2, gP_4, gP_9, gP_15, gP_21, gP_49, gR_0, gR_2, gR_4, gR_9, gR_15, gR_21, gR_49, gL_53, gL_54, oPz_0, oPz_1, Option.bind_some, c10, c01, cm1, c00, if_true, if_false, ne_eq, not_true_eq_false, not_false_eq_true]
    · simp only [f_X12_row, f_X12_row_0, f_X12_row_30, X12_isRow_y hr, X12_in02, bI_t hb, hc, gI_0, gI_2, gI_4, gI_9, gI_15, gI_21, gI_49, gP_0, gP_2, gP_4, gP_9, gP_15, gP_21, gP_49, gR_0, gR_2, gR_4, gR_9, gR_15, gR_21, gR_49, gL_53, gL_54, oPz_0, oPz_1, Option.bind_some, c10, c01, cm1, c00, if_true, if_false, ne_eq, not_true_eq_false, not_false_eq_true]
  by_cases hc0 : (0 : Int32) ≤ c
  case neg =>
    refine ⟨-1000014, m, up2 F 0 8 4, L, T, _, ?_, ?_, R.fnd 4, by omega⟩
    · simp only [f_X11_row, f_X11_row_0, f_X11_row_22, X11_isRow_y hr, hb0, hb2, hc, hc0, f_X11_found, f_X11_found_0, gI_0, gI_2, gI_4, gI_9, gI_15, gI_21, gI_49, gP_0, gP_2, gP_4, gP_9, gP_15, gP_21, gP_49, gR_0, gR_2, gR_4, gR_9, gR_15, gR_21, gR_49, gL_53, gL_54, oPz_0, oPz_1, Option.bind_some, c10, c01, cm1, c00, if_true, if_false, ne_eq, not_true_eq_false, not_false_eq_true]
      rfl
    · simp only [f_X12_row, f_X12_row_0, f_X12_row_30, X12_isRow_y hr, X12_in02, bI_t hb, hc, hc0, f_X12_finding, f_X12_finding_0, gI_0, gI_2, gI_4, gI_9, gI_15, gI_21, gI_49, gP_0, gP_2, gP_4, gP_9, gP_15, gP_21, gP_49, gR_0, gR_2, gR_4, gR_9, gR_15, gR_21, gR_49, gL_53, gL_54, oPz_0, oPz_1, Option.bind_some, c10, c01, cm1, c00, if_true, if_false, ne_eq, not_true_eq_false, not_false_eq_true]
      rfl
  obtain ⟨n, hn, rfl⟩ := nI_of2 (M := 40) (n := 40) (by decide) (Int32.not_lt.mpr hc0) hc
  obtain ⟨l, hl, rfl⟩ := nI_of2 (M := 2) (n := 2) (by decide) hb0 hb.2
  refine ⟨nI n, m, up2 (up (up2 (up2 (up2 F (23 + 2 * r) 0 1) (23 + 2 * r) 1 (nI l)) (23 + 2 * r) 2 (nI n)) (24 + 2 * r) (clr (F (24 + 2 * r)) 0 40)) 0 8 0, L, T, up (up2 (up2 (up2 (up2 (up2 (up (up2 (up2 (up2 F (23 + 2 * r) 0 1) (23 + 2 * r) 1 (nI l)) (23 + 2 * r) 2 (nI n)) (24 + 2 * r) (clr (F (24 + 2 * r)) 0 40)) 0 8 0) 49 0 0) 49 1 0) 50 r (nI l)) 51 r (nI n)) 52 (clr (F 52) (40 * r) (40 * r + 40)), ?_, ?_, ?_, by omega⟩
  · have e0 : up2 (up2 (up2 F (23 + 2 * r) 0 1) (23 + 2 * r) 1 (nI l)) (23 + 2 * r) 2 (nI n) (24 + 2 * r) = F (24 + 2 * r) := by simp (disch := omega) only [up2_ne, up2_o, up2_s]
    have e1 := X3_clear (N := N) (m := m) (L := L) (T := T) hr N 0 (up2 (up2 (up2 F (23 + 2 * r) 0 1) (23 + 2 * r) 1 (nI l)) (23 + 2 * r) 2 (nI n)) (by omega) (by omega)
    rw [e0] at e1
    simp only [f_X11_row, f_X11_row_0, X11_isRow_y hr, hb0, hb2, hc, hc0, gN_1 hr, gR_r hr, f_X3_begin, f_X3_begin_0, gP_r0 hr, gP_r1 hr, gP_r2 hr, gI_0, gI_2, gI_4, gI_9, gI_15, gI_21, gI_49, gP_0, gP_2, gP_4, gP_9, gP_15, gP_21, gP_49, gR_0, gR_2, gR_4, gR_9, gR_15, gR_21, gR_49, gL_53, gL_54, oPz_0, oPz_1, Option.bind_some, c10, c01, cm1, c00, if_true, if_false, ne_eq, not_true_eq_false, not_false_eq_true]
    rw [show (0 : Int32) = nI 0 from rfl, e1]
    simp only [f_X11_passed, f_X11_passed_0, gI_0, gI_2, gI_4, gI_9, gI_15, gI_21, gI_49, gP_0, gP_2, gP_4, gP_9, gP_15, gP_21, gP_49, gR_0, gR_2, gR_4, gR_9, gR_15, gR_21, gR_49, gL_53, gL_54, oPz_0, oPz_1, Option.bind_some, c10, c01, cm1, c00, if_true, if_false, ne_eq, not_true_eq_false, not_false_eq_true]
    rfl
  · generalize hG : up2 (up (up2 (up2 (up2 F (23 + 2 * r) 0 1) (23 + 2 * r) 1 (nI l)) (23 + 2 * r) 2 (nI n)) (24 + 2 * r) (clr (F (24 + 2 * r)) 0 40)) 0 8 0 = G
    have hG44 : G 52 = F 52 := by
      rw [← hG, up2_ne (by decide), up_n2 (by omega)]; simp (disch := omega) only [up2_ne, up2_o, up2_s]
    have e0 : up2 (up2 (up2 (up2 G 49 0 0) 49 1 0) 50 r (nI l)) 51 r (nI n) 52 = F 52 := by simp (disch := omega) only [up2_ne, up2_o, up2_s]; exact hG44
    have e1 := X12_clear (N := N) (m := m) (L := L) (T := T) (x := nI n) hr N 0 (up2 (up2 (up2 (up2 G 49 0 0) 49 1 0) 50 r (nI l)) 51 r (nI n)) (by omega) (by omega)
    rw [e0, Nat.add_zero] at e1
    simp only [f_X12_row, f_X12_row_0, X12_isRow_y hr, X12_in02, bI_t hb, hc, hc0, (gN_50 hr).2, (gN_51 hr).2, gI_0, gI_2, gI_4, gI_9, gI_15, gI_21, gI_49, gP_0, gP_2, gP_4, gP_9, gP_15, gP_21, gP_49, gR_0, gR_2, gR_4, gR_9, gR_15, gR_21, gR_49, gL_53, gL_54, oPz_0, oPz_1, Option.bind_some, c10, c01, cm1, c00, if_true, if_false, ne_eq, not_true_eq_false, not_false_eq_true]
    exact e1
  · generalize hG : up2 (up (up2 (up2 (up2 F (23 + 2 * r) 0 1) (23 + 2 * r) 1 (nI l)) (23 + 2 * r) 2 (nI n)) (24 + 2 * r) (clr (F (24 + 2 * r)) 0 40)) 0 8 0 = G
    have g19 : ∀ q, q < 8 → q ≠ r → G (23 + 2 * q) = F (23 + 2 * q) := fun q hq hqr => by rw [← hG, up2_ne (by omega), up_n2 (by omega)]; simp (disch := omega) only [up2_ne, up2_o, up2_s]
    have g20 : ∀ q, q < 8 → q ≠ r → G (24 + 2 * q) = F (24 + 2 * q) := fun q hq hqr => by rw [← hG, up2_ne (by omega), up_n2 (by omega)]; simp (disch := omega) only [up2_ne, up2_o, up2_s]
    have gr0 : G (23 + 2 * r) 0 = 1 := by rw [← hG, up2_ne (by omega), up_n2 (by omega)]; simp (disch := omega) only [up2_ne, up2_o, up2_s]
    have gr1 : G (23 + 2 * r) 1 = nI l := by rw [← hG, up2_ne (by omega), up_n2 (by omega)]; simp (disch := omega) only [up2_ne, up2_o, up2_s]
    have gr2 : G (23 + 2 * r) 2 = nI n := by rw [← hG, up2_ne (by omega), up_n2 (by omega)]; simp (disch := omega) only [up2_ne, up2_o, up2_s]
    have gr3 : G (24 + 2 * r) = clr (F (24 + 2 * r)) 0 40 := by rw [← hG, up2_ne (by omega), up_s]
    have gp : ∀ p, p ≠ 0 → ¬ (23 ≤ p ∧ p ≤ 38) → G p = F p := fun p h0 hp => by rw [← hG, up2_ne h0, up_n2 (by omega)]; simp (disch := omega) only [up2_ne, up2_o, up2_s]
    have g07 : G 0 7 = F 0 7 := by rw [← hG, up2_o (by decide), up_n2 (by omega)]; simp (disch := omega) only [up2_ne, up2_o, up2_s]
    have g08 : G 0 8 = 0 := by rw [← hG, up2_s]
    clear hG
    generalize hH : up2 (up2 (up2 (up2 G 49 0 0) 49 1 0) 50 r (nI l)) 51 r (nI n) = H
    have hp : ∀ p, p ≠ 49 → p ≠ 50 → p ≠ 51 → H p = G p := fun p a b c => by rw [← hH]; simp (disch := omega) only [up2_ne, up2_o, up2_s]
    have h42 : H 50 r = nI l := by rw [← hH]; simp (disch := omega) only [up2_ne, up2_o, up2_s]
    have h43 : H 51 r = nI n := by rw [← hH]; simp (disch := omega) only [up2_ne, up2_o, up2_s]
    have h42' : ∀ q, q ≠ r → H 50 q = G 50 q := fun q hq => by rw [← hH]; simp (disch := omega) only [up2_ne, up2_o, up2_s]
    have h43' : ∀ q, q ≠ r → H 51 q = G 51 q := fun q hq => by rw [← hH]; simp (disch := omega) only [up2_ne, up2_o, up2_s]
    have k9 : H 49 9 = G 49 9 := by rw [← hH]; simp (disch := omega) only [up2_ne, up2_o, up2_s]
    have k1 : H 49 1 = 0 := by rw [← hH]; simp (disch := omega) only [up2_ne, up2_o, up2_s]
    have k8 : H 49 8 = G 49 8 := by rw [← hH]; simp (disch := omega) only [up2_ne, up2_o, up2_s]
    have k30 : H 49 30 = G 49 30 := by rw [← hH]; simp (disch := omega) only [up2_ne, up2_o, up2_s]
    clear hH
    refine R.rows (R.1.one hr (fun q hq hqr => ?_) ?_) (fun p h0 h41 hp1 hp2 => ?_) ?_ ?_ ?_ ?_
    · refine ⟨?_, ?_, ?_, ?_, fun i hi => ?_⟩
      · rw [up_n2 (by omega), hp _ (by omega) (by omega) (by omega), g19 q hq hqr]
      · rw [up_n2 (by omega), hp _ (by omega) (by omega) (by omega), g20 q hq hqr]
      · rw [up_n2 (by omega), h42' q hqr, gp 50 (by omega) (by omega)]
      · rw [up_n2 (by omega), h43' q hqr, gp 51 (by omega) (by omega)]
      · rw [up_s]
        unfold clr
        rw [if_neg (by omega)]
    · have f1 : up H 52 (clr (F 52) (40 * r) (40 * r + 40)) (23 + 2 * r) = G (23 + 2 * r) := by rw [up_n2 (by omega), hp _ (by omega) (by omega) (by omega)]
      have f2 : up H 52 (clr (F 52) (40 * r) (40 * r + 40)) (24 + 2 * r) = G (24 + 2 * r) := by rw [up_n2 (by omega), hp _ (by omega) (by omega) (by omega)]
      have f3 : up H 52 (clr (F 52) (40 * r) (40 * r + 40)) 50 r = nI l := by rw [up_n2 (by omega), h42]
      have f4 : up H 52 (clr (F 52) (40 * r) (40 * r + 40)) 51 r = nI n := by rw [up_n2 (by omega), h43]
      rw [f1, f2, f3, f4, gr0, gr1, gr2, gr3, up_s]
      refine ⟨Or.inr ⟨rfl, rfl, ?_⟩, rfl, ⟨n, hn, rfl⟩, fun i hi => ?_⟩
      · rcases (show l = 0 ∨ l = 1 ∨ l = 2 by omega) with rfl | rfl | rfl
        · exact Or.inl rfl
        · exact Or.inr (Or.inl rfl)
        · exact Or.inr (Or.inr rfl)
      · unfold clr
        rw [if_pos (by omega), if_pos (by omega)]
    · rw [up_n2 (by omega), hp _ h41 (by omega) (by omega), gp p h0 hp1]
    · rw [up_n2 (by omega), up_n2 (by omega), hp 0 (by omega) (by omega) (by omega), k9, g07, gp 49 (by omega) (by omega)]
      exact R.2.2.2.2.1
    · rw [up_n2 (by omega), up_n2 (by omega), hp 0 (by omega) (by omega) (by omega), k1, g08]
    · rw [up_n2 (by omega), k8, gp 49 (by omega) (by omega)]
    · rw [up_n2 (by omega), k30, gp 49 (by omega) (by omega)]
theorem o_trace (N : Nat) (hN : 5000 ≤ N) (m : Nat) (F : Nat → Nat → Int32) (L : Nat → Nat → Option Nat) (T : Nat → Nat) (hm : m ≤ 3000) (R : Rel m F L T) (a : Int32) : OpOk (fun A => f_X11_trace N A (some 0) a) (fun A => f_X12_trace N A (some 49) a) m F L T := by
  obtain ⟨n, hn, h1, h2, h3⟩ := R.2.2.2.2.2.2
  have e1 : up2 F 49 0 0 49 30 = nI n := by simp (disch := omega) only [up2_ne, up2_o, up2_s]; exact h2
  have out : (a < 0 ∨ nI n ≤ a) → OpOk (fun A => f_X11_trace N A (some 0) a) (fun A => f_X12_trace N A (some 49) a) m F L T := by
    intro h
    refine ⟨-1000000, m, F, L, T, up2 F 49 0 0, ?_, ?_, R.thr 0, by omega⟩
    · by_cases ha : a < 0
      · simp only [f_X11_trace, f_X11_trace_0, f_X11_trace_27, f_X11_trace_29, ha, gI_0, gI_2, gI_4, gI_9, gI_15, gI_21, gI_49, gP_0, gP_2, gP_4, gP_9, gP_15, gP_21, gP_49, gR_0, gR_2, gR_4, gR_9, gR_15, gR_21, gR_49, gL_53, gL_54, oPz_0, oPz_1, Option.bind_some, c10, c01, cm1, c00, if_true, if_false, ne_eq, not_true_eq_false, not_false_eq_true]
      · have ha2 : nI n ≤ a := by rcases h with h | h; exact absurd h ha; exact h
        simp only [f_X11_trace, f_X11_trace_0, f_X11_trace_27, f_X11_trace_29, ha, h1, ha2, gI_0, gI_2, gI_4, gI_9, gI_15, gI_21, gI_49, gP_0, gP_2, gP_4, gP_9, gP_15, gP_21, gP_49, gR_0, gR_2, gR_4, gR_9, gR_15, gR_21, gR_49, gL_53, gL_54, oPz_0, oPz_1, Option.bind_some, c10, c01, cm1, c00, if_true, if_false, ne_eq, not_true_eq_false, not_false_eq_true]
    · simp only [f_X12_trace, f_X12_trace_0, f_X12_trace_32, e1, X12_in_n h (show n < 2 ^ 30 by omega), gI_0, gI_2, gI_4, gI_9, gI_15, gI_21, gI_49, gP_0, gP_2, gP_4, gP_9, gP_15, gP_21, gP_49, gR_0, gR_2, gR_4, gR_9, gR_15, gR_21, gR_49, gL_53, gL_54, oPz_0, oPz_1, Option.bind_some, c10, c01, cm1, c00, if_true, if_false, ne_eq, not_true_eq_false, not_false_eq_true]
  rcases pk_ix a (n := n) (by omega) with h | h | ⟨j, hj, rfl⟩
  · exact out (Or.inl h)
  · exact out (Or.inr h)
  refine ⟨F 22 j, m, F, L, T, up2 F 49 0 0, ?_, ?_, R.thr 0, by omega⟩
  · have b0 : ¬ nI j < 0 := nI_pos (by omega)
    have b1 : ¬ nI n ≤ nI j := nI_ge hj (by omega)
    simp only [f_X11_trace, f_X11_trace_0, f_X11_trace_27, f_X11_trace_29, b0, b1, h1, (gN_22 (show j < 16 by omega)).1, gI_0, gI_2, gI_4, gI_9, gI_15, gI_21, gI_49, gP_0, gP_2, gP_4, gP_9, gP_15, gP_21, gP_49, gR_0, gR_2, gR_4, gR_9, gR_15, gR_21, gR_49, gL_53, gL_54, oPz_0, oPz_1, Option.bind_some, c10, c01, cm1, c00, if_true, if_false, ne_eq, not_true_eq_false, not_false_eq_true]
  · have e2 : up2 F 49 0 0 61 j = F 22 j := by simp (disch := omega) only [up2_ne, up2_o, up2_s]; exact (h3 j hj).symm
    simp only [f_X12_trace, f_X12_trace_0, f_X12_trace_32, e1, X12_in_y hj (show n < 2 ^ 30 by omega), (gN_61 (show j < 16 by omega)).1, e2, gI_0, gI_2, gI_4, gI_9, gI_15, gI_21, gI_49, gP_0, gP_2, gP_4, gP_9, gP_15, gP_21, gP_49, gR_0, gR_2, gR_4, gR_9, gR_15, gR_21, gR_49, gL_53, gL_54, oPz_0, oPz_1, Option.bind_some, c10, c01, cm1, c00, if_true, if_false, ne_eq, not_true_eq_false, not_false_eq_true]
