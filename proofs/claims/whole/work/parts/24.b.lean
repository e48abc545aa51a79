theorem RowsR.one {F G : Nat → Nat → Int32} {r : Nat} (h : RowsR F) (hr : r < 8) (e : ∀ q, q < 8 → q ≠ r → G (23 + 2 * q) = F (23 + 2 * q) ∧ G (24 + 2 * q) = F (24 + 2 * q) ∧ G 50 q = F 50 q ∧ G 51 q = F 51 q ∧ ∀ i, i < 40 → G 52 (40 * q + i) = F 52 (40 * q + i))
    (hn : (G (23 + 2 * r) 0 = 0 ∧ G 50 r = -1 ∨ G (23 + 2 * r) 0 = 1 ∧ G 50 r = G (23 + 2 * r) 1 ∧ (G 50 r = 0 ∨ G 50 r = 1 ∨ G 50 r = 2)) ∧ G 51 r = G (23 + 2 * r) 2 ∧ (∃ n, n ≤ 40 ∧ G 51 r = nI n) ∧ ∀ i, i < 40 → G 52 (40 * r + i) = G (24 + 2 * r) i) : RowsR G := by
  intro q hq
  by_cases hqr : q = r
  · subst hqr; exact hn
  · obtain ⟨e1, e2, e3, e4, e5⟩ := e q hq hqr
    obtain ⟨h1, h2, h3, h4⟩ := h q hq
    rw [e1, e2, e3, e4]
    exact ⟨h1, h2, h3, fun i hi => (e5 i hi).trans (h4 i hi)⟩
theorem Rel.rows {m : Nat} {F G : Nat → Nat → Int32} {L : Nat → Nat → Option Nat} {T : Nat → Nat} (h : Rel m F L T) (hr : RowsR G) (e : ∀ p, p ≠ 0 → p ≠ 49 → ¬ (23 ≤ p ∧ p ≤ 38) → ¬ (50 ≤ p ∧ p ≤ 52) → G p = F p) (e7 : G 0 7 = G 49 9) (e8 : G 0 8 = G 49 1) (t2 : G 49 8 = F 49 8) (a2 : G 49 30 = F 49 30) : Rel m G L T := by
  obtain ⟨h1, h2, h3, h4, h5, h6, h7⟩ := h
  exact ⟨hr, h2.same (by rw [e 2 (by omega) (by omega) (by omega) (by omega)]) t2 (e 55 (by omega) (by omega) (by omega) (by omega)) (e 3 (by omega) (by omega) (by omega) (by omega)), h3.same (e 4 (by omega) (by omega) (by omega) (by omega)) (e 8 (by omega) (by omega) (by omega) (by omega)) (e 6 (by omega) (by omega) (by omega) (by omega)) (by rw [e 15 (by omega) (by omega) (by omega) (by omega)]; exact ⟨rfl, rfl, rfl, rfl⟩) (e 53 (by omega) (by omega) (by omega) (by omega)) (fun t ht => e t (by omega) (by omega) (by omega) (by omega)), h4.same (fun p hp => e p (by omega) (by omega) (by omega) (by omega)), e7, e8, h7.same (by rw [e 21 (by omega) (by omega) (by omega) (by omega)]) a2 (e 22 (by omega) (by omega) (by omega) (by omega)) (e 61 (by omega) (by omega) (by omega) (by omega))⟩
/-- x's finding and the reference's -/
theorem Rel.fnd {m : Nat} {F : Nat → Nat → Int32} {L : Nat → Nat → Option Nat} {T : Nat → Nat} (h : Rel m F L T) (v : Int32) : Rel m (up2 (up2 (up2 (up2 F 0 8 v) 49 0 0) 49 1 0) 49 1 v) L T := by
  refine h.xm (fun p h0 h1 => ?_) ?_ ?_ ?_ ?_
  · rw [up2_ne h1, up2_ne h1, up2_ne h1, up2_ne h0]
  · simpa [up2, up, upd] using h.2.2.2.2.1
  · simp [up2, up, upd]
  · simp [up2, up, upd]
  · simp [up2, up, upd]
theorem o_drop (N : Nat) (hN : 5000 ≤ N) (m : Nat) (F : Nat → Nat → Int32) (L : Nat → Nat → Option Nat) (T : Nat → Nat) (hm : m ≤ 3000) (R : Rel m F L T) (a : Int32) : OpOk (fun A => f_X11_drop N A (some 0) a) (fun A => f_X12_drop N A (some 49) a) m F L T := by
  have bad : (a < 0 ∨ nI 8 ≤ a) → OpOk (fun A => f_X11_drop N A (some 0) a) (fun A => f_X12_drop N A (some 49) a) m F L T := by
    intro h
    refine ⟨-1000001, m, F, L, T, up2 F 49 0 0, ?_, ?_, R.thr 0, by omega⟩
    · simp only [f_X11_drop, f_X11_drop_0, X11_isRow_n h, gI_0, gI_2, gI_4, gI_9, gI_15, gI_21, gI_49, gP_0, gP_2, gP_4, gP_9, gP_15, gP_21, gP_49, gR_0, gR_2, gR_4, gR_9, gR_15, gR_21, gR_49, gL_53, gL_54, oPz_0, oPz_1, Option.bind_some, c10, c01, cm1, c00, if_true, if_false, ne_eq, not_true_eq_false, not_false_eq_true]
    · simp only [f_X12_drop, f_X12_drop_0, X12_isRow_n h, gI_0, gI_2, gI_4, gI_9, gI_15, gI_21, gI_49, gP_0, gP_2, gP_4, gP_9, gP_15, gP_21, gP_49, gR_0, gR_2, gR_4, gR_9, gR_15, gR_21, gR_49, gL_53, gL_54, oPz_0, oPz_1, Option.bind_some, c10, c01, cm1, c00, if_true, if_false, ne_eq, not_true_eq_false, not_false_eq_true]
  rcases pk_ix a (n := 8) (by decide) with h | h | ⟨r, hr, rfl⟩
  · exact bad (Or.inl h)
  · exact bad (Or.inr h)
  obtain ⟨h1, h2, ⟨n, hn, h3⟩, h4⟩ := R.1 r hr
  rcases h1 with ⟨h5, h6⟩ | ⟨h5, h6, h7⟩
  · refine ⟨-1000011, m, up2 F 0 8 1, L, T, _, ?_, ?_, R.fnd 1, by omega⟩
    · simp only [f_X11_drop, f_X11_drop_0, X11_isRow_y hr, gN_1 hr, gI_r0 hr, h5, f_X11_found, f_X11_found_0, gI_0, gI_2, gI_4, gI_9, gI_15, gI_21, gI_49, gP_0, gP_2, gP_4, gP_9, gP_15, gP_21, gP_49, gR_0, gR_2, gR_4, gR_9, gR_15, gR_21, gR_49, gL_53, gL_54, oPz_0, oPz_1, Option.bind_some, c10, c01, cm1, c00, if_true, if_false, ne_eq, not_true_eq_false, not_false_eq_true]
      rfl
    · have e1 : up2 (up2 (up2 F 0 8 1) 49 0 0) 49 1 0 50 r = -1 := by rw [up2_ne (by decide), up2_ne (by decide), up2_ne (by decide)]; exact h6
      simp only [f_X12_drop, f_X12_drop_0, X12_isRow_y hr, (gN_50 hr).1, e1, f_X12_finding, f_X12_finding_0, gI_0, gI_2, gI_4, gI_9, gI_15, gI_21, gI_49, gP_0, gP_2, gP_4, gP_9, gP_15, gP_21, gP_49, gR_0, gR_2, gR_4, gR_9, gR_15, gR_21, gR_49, gL_53, gL_54, oPz_0, oPz_1, Option.bind_some, c10, c01, cm1, c00, if_true, if_false, ne_eq, not_true_eq_false, not_false_eq_true]
      rfl
  · refine ⟨F (23 + 2 * r) 2, m, up2 (up2 F (23 + 2 * r) 0 0) 0 8 0, L, T, up2 (up2 (up2 (up2 (up2 F (23 + 2 * r) 0 0) 0 8 0) 49 0 0) 49 1 0) 50 r (-1), ?_, ?_, ?_, by omega⟩
    · have e1 : up2 F (23 + 2 * r) 0 0 (23 + 2 * r) 2 = F (23 + 2 * r) 2 := up2_o (by decide)
      simp only [f_X11_drop, f_X11_drop_0, X11_isRow_y hr, gN_1 hr, gI_r0 hr, gI_r2 hr, gP_r0 hr, h5, e1, f_X11_passed, f_X11_passed_0, gI_0, gI_2, gI_4, gI_9, gI_15, gI_21, gI_49, gP_0, gP_2, gP_4, gP_9, gP_15, gP_21, gP_49, gR_0, gR_2, gR_4, gR_9, gR_15, gR_21, gR_49, gL_53, gL_54, oPz_0, oPz_1, Option.bind_some, c10, c01, cm1, c00, if_true, if_false, ne_eq, not_true_eq_false, not_false_eq_true]
    · have e1 : up2 (up2 (up2 (up2 F (23 + 2 * r) 0 0) 0 8 0) 49 0 0) 49 1 0 50 r = F 50 r := by rw [up2_ne (by decide), up2_ne (by decide), up2_ne (by decide), up2_ne (by omega)]
      have e2 : up2 (up2 (up2 (up2 (up2 F (23 + 2 * r) 0 0) 0 8 0) 49 0 0) 49 1 0) 50 r (-1) 51 r = F (23 + 2 * r) 2 := by rw [up2_ne (by decide), up2_ne (by decide), up2_ne (by decide), up2_ne (by decide), up2_ne (by omega)]; exact h2
      have e3 : ((0 : Int32) ≤ F 50 r) = True := eq_true (by rcases h7 with h | h | h <;> rw [h] <;> decide)
      simp only [f_X12_drop, f_X12_drop_0, X12_isRow_y hr, (gN_50 hr).1, (gN_50 hr).2, (gN_51 hr).1, e1, e2, e3, gI_0, gI_2, gI_4, gI_9, gI_15, gI_21, gI_49, gP_0, gP_2, gP_4, gP_9, gP_15, gP_21, gP_49, gR_0, gR_2, gR_4, gR_9, gR_15, gR_21, gR_49, gL_53, gL_54, oPz_0, oPz_1, Option.bind_some, c10, c01, cm1, c00, if_true, if_false, ne_eq, not_true_eq_false, not_false_eq_true]
    · refine R.rows (R.1.one hr (fun q hq hqr => ?_) ?_) (fun p h0 h41 hp hp2 => ?_) ?_ ?_ ?_ ?_
      · refine ⟨?_, ?_, ?_, ?_, fun i hi => ?_⟩
        · rw [up2_ne (by omega), up2_ne (by omega), up2_ne (by omega), up2_ne (by omega), up2_ne (by omega)]
        · rw [up2_ne (by omega), up2_ne (by omega), up2_ne (by omega), up2_ne (by omega), up2_ne (by omega)]
        · rw [up2_o hqr, up2_ne (by omega), up2_ne (by omega), up2_ne (by omega), up2_ne (by omega)]
        · rw [up2_ne (by omega), up2_ne (by omega), up2_ne (by omega), up2_ne (by omega), up2_ne (by omega)]
        · rw [up2_ne (by omega), up2_ne (by omega), up2_ne (by omega), up2_ne (by omega), up2_ne (by omega)]
      · have f1 : up2 (up2 (up2 (up2 (up2 F (23 + 2 * r) 0 0) 0 8 0) 49 0 0) 49 1 0) 50 r (-1) (23 + 2 * r) = up2 F (23 + 2 * r) 0 0 (23 + 2 * r) := by rw [up2_ne (by omega), up2_ne (by omega), up2_ne (by omega), up2_ne (by omega)]
        have f2 : up2 (up2 (up2 (up2 (up2 F (23 + 2 * r) 0 0) 0 8 0) 49 0 0) 49 1 0) 50 r (-1) (24 + 2 * r) = F (24 + 2 * r) := by rw [up2_ne (by omega), up2_ne (by omega), up2_ne (by omega), up2_ne (by omega), up2_ne (by omega)]
        have f3 : up2 (up2 (up2 (up2 (up2 F (23 + 2 * r) 0 0) 0 8 0) 49 0 0) 49 1 0) 50 r (-1) 51 = F 51 := by rw [up2_ne (by omega), up2_ne (by omega), up2_ne (by omega), up2_ne (by omega), up2_ne (by omega)]
        have f4 : up2 (up2 (up2 (up2 (up2 F (23 + 2 * r) 0 0) 0 8 0) 49 0 0) 49 1 0) 50 r (-1) 52 = F 52 := by rw [up2_ne (by omega), up2_ne (by omega), up2_ne (by omega), up2_ne (by omega), up2_ne (by omega)]
        rw [f1, f2, f3, f4]
        exact ⟨Or.inl ⟨up2_s _ _ _ _, up2_s _ _ _ _⟩, by rw [up2_o (by decide)]; exact h2, ⟨n, hn, h3⟩, h4⟩
      · rw [up2_ne (by omega), up2_ne (by omega), up2_ne (by omega), up2_ne (by omega), up2_ne (by omega)]
      · simpa [up2, up, upd, show ¬ (49 = 23 + 2 * r) by omega, show ¬ (0 = 23 + 2 * r) by omega] using R.2.2.2.2.1
      · simp [up2, up, upd]
      · simp [up2, up, upd, show ¬ (49 = 23 + 2 * r) by omega]
      · simp [up2, up, upd, show ¬ (49 = 23 + 2 * r) by omega]
