theorem sumN_congr {f g : Nat → Nat} : ∀ {n : Nat}, (∀ k, k < n → f k = g k) → sumN f n = sumN g n
  | 0, _ => rfl
  | n + 1, h => by rw [sumN, sumN, sumN_congr (fun k hk => h k (by omega)), h n (by omega)]
theorem anyN_congr {f g : Nat → Bool} : ∀ {n : Nat}, (∀ k, k < n → f k = g k) → anyN f n = anyN g n
  | 0, _ => rfl
  | n + 1, h => by rw [anyN, anyN, anyN_congr (fun k hk => h k (by omega)), h n (by omega)]
def tcI (F : Nat → Nat → Int32) : Nat → Int32
  | 0 => 0
  | k + 1 => (if F (23 + 2 * (7 - k)) 0 = 0 then 0 else 1) + tcI F k
theorem i32_aa (a b c : Int32) : a + b + c = a + (b + c) := Int32.add_assoc a b c
theorem X11_many {N m : Nat} {F : Nat → Nat → Int32} {L : Nat → Nat → Option Nat} {T : Nat → Nat} : ∀ (k n : Nat) (x : Int32), k ≤ 8 → k < n → f_X11_howManyRows_4 N n (Hp m F L T) (some 0) x (nI (8 - k)) = some (x + tcI F k, Hp m F L T) := by
  intro k
  induction k with
  | zero =>
    intro n x h1 h2
    obtain ⟨n, rfl⟩ : ∃ j, n = j + 1 := ⟨n - 1, by omega⟩
    rw [f_X11_howManyRows_4, if_pos (by decide), tcI, Int32.add_zero]
  | succ k ih =>
    intro n x h1 h2
    obtain ⟨n, rfl⟩ : ∃ j, n = j + 1 := ⟨n - 1, by omega⟩
    have hk : ¬ (8 : Int32) ≤ nI (8 - (k + 1)) := nI_ge (a := 8 - (k + 1)) (b := 8) (by omega) (by omega)
    have hr : 8 - (k + 1) < 8 := by omega
    rw [f_X11_howManyRows_4, if_neg hk]
    simp only [gN_1 hr, gI_r0 hr, f_X11_howManyRows_25, nI_1, show 8 - (k + 1) + 1 = 8 - k by omega, gI_0, gI_2, gI_4, gI_9, gI_15, gI_21, gI_49, gP_0, gP_2, gP_4, gP_9, gP_15, gP_21, gP_49, gR_0, gR_2, gR_4, gR_9, gR_15, gR_21, gR_49, gL_53, gL_54, oPz_0, oPz_1, Option.bind_some, c10, c01, cm1, c00, if_true, if_false, ne_eq, not_true_eq_false, not_false_eq_true]
    rw [tcI, show 7 - k = 8 - (k + 1) by omega]
    by_cases h0 : F (23 + 2 * (8 - (k + 1))) 0 = 0
    · rw [if_pos h0, if_pos h0, ih n x (by omega) (by omega), Int32.zero_add]
    · rw [if_neg h0, if_neg h0, ih n (x + 1) (by omega) (by omega), i32_aa]
theorem X12_many {N m : Nat} {F : Nat → Nat → Int32} {L : Nat → Nat → Option Nat} {T : Nat → Nat} (R : RowsR F) : ∀ (k n : Nat) (x : Int32), k ≤ 8 → k < n → f_X12_count_54 N n (Hp m F L T) (some 49) x (nI (8 - k)) = some (x + tcI F k, Hp m F L T) := by
  intro k
  induction k with
  | zero =>
    intro n x h1 h2
    obtain ⟨n, rfl⟩ : ∃ j, n = j + 1 := ⟨n - 1, by omega⟩
    rw [f_X12_count_54, if_pos (by decide), tcI, Int32.add_zero]
  | succ k ih =>
    intro n x h1 h2
    obtain ⟨n, rfl⟩ : ∃ j, n = j + 1 := ⟨n - 1, by omega⟩
    have hk : ¬ (8 : Int32) ≤ nI (8 - (k + 1)) := nI_ge (a := 8 - (k + 1)) (b := 8) (by omega) (by omega)
    have hr : 8 - (k + 1) < 8 := by omega
    rw [f_X12_count_54, if_neg hk]
    simp only [(gN_50 hr).1, f_X12_count_75, nI_1, show 8 - (k + 1) + 1 = 8 - k by omega, gI_0, gI_2, gI_4, gI_9, gI_15, gI_21, gI_49, gP_0, gP_2, gP_4, gP_9, gP_15, gP_21, gP_49, gR_0, gR_2, gR_4, gR_9, gR_15, gR_21, gR_49, gL_53, gL_54, oPz_0, oPz_1, Option.bind_some, c10, c01, cm1, c00, if_true, if_false, ne_eq, not_true_eq_false, not_false_eq_true]
    rw [tcI, show 7 - k = 8 - (k + 1) by omega]
    rcases (R _ hr).1 with ⟨h5, h6⟩ | ⟨h5, h6, h7⟩
    · rw [if_pos h5, h6, if_pos (by decide), ih n _ (by omega) (by omega), Int32.add_zero, Int32.zero_add]
    · rw [if_neg (by rcases h7 with h | h | h <;> rw [h] <;> decide), if_neg (by rw [h5]; decide), ih n _ (by omega) (by omega), i32_aa]
theorem tcI_same {F G : Nat → Nat → Int32} (h : ∀ r, r < 8 → G (23 + 2 * r) 0 = F (23 + 2 * r) 0) : ∀ k, k ≤ 8 → tcI G k = tcI F k
  | 0, _ => rfl
  | k + 1, hk => by rw [tcI, tcI, tcI_same h k (by omega), h _ (by omega)]
theorem o_count (N : Nat) (hN : 5000 ≤ N) (m : Nat) (F : Nat → Nat → Int32) (L : Nat → Nat → Option Nat) (T : Nat → Nat) (hm : m ≤ 3000) (R : Rel m F L T) (a : Int32) : OpOk (fun A => f_X11_count N A (some 0) a) (fun A => f_X12_count N A (some 49) a) m F L T := by
  obtain ⟨P, pv, pm, pc, -⟩ := R.2.2.1
  have ps : ∀ i, up2 F 49 0 0 53 i = F 53 i := fun i => by simp (disch := omega) only [up2_ne, up2_o, up2_s]
  by_cases h0 : a = 0
  · subst h0
    refine ⟨0 + tcI F 8, m, F, L, T, up2 F 49 0 0, ?_, ?_, R.thr 0, by omega⟩
    · have e := X11_many (N := N) (m := m) (F := F) (L := L) (T := T) 8 N 0 (by omega) (by omega)
      simp only [f_X11_count, f_X11_count_0, f_X11_howManyRows, f_X11_howManyRows_0, gI_0, gI_2, gI_4, gI_9, gI_15, gI_21, gI_49, gP_0, gP_2, gP_4, gP_9, gP_15, gP_21, gP_49, gR_0, gR_2, gR_4, gR_9, gR_15, gR_21, gR_49, gL_53, gL_54, oPz_0, oPz_1, Option.bind_some, c10, c01, cm1, c00, if_true, if_false, ne_eq, not_true_eq_false, not_false_eq_true]
      rw [show f_X11_howManyRows_4 N N (Hp m F L T) (some 0) 0 0 = _ from e]
      rfl
    · have e := X12_many (N := N) (m := m) (L := L) (T := T) (R.thr 0).1 8 N 0 (by omega) (by omega)
      rw [tcI_same (F := F) (fun r hr => by simp (disch := omega) only [up2_ne, up2_o, up2_s]) 8 (by omega)] at e
      simp only [f_X12_count, f_X12_count_0, gI_0, gI_2, gI_4, gI_9, gI_15, gI_21, gI_49, gP_0, gP_2, gP_4, gP_9, gP_15, gP_21, gP_49, gR_0, gR_2, gR_4, gR_9, gR_15, gR_21, gR_49, gL_53, gL_54, oPz_0, oPz_1, Option.bind_some, c10, c01, cm1, c00, if_true, if_false, ne_eq, not_true_eq_false, not_false_eq_true]
      exact e
  by_cases h1 : a = 1
  · subst h1
    refine ⟨F 4 4, m, F, L, T, up2 F 49 0 0, ?_, ?_, R.thr 0, by omega⟩
    · simp only [f_X11_count, f_X11_count_0, h0, gI_0, gI_2, gI_4, gI_9, gI_15, gI_21, gI_49, gP_0, gP_2, gP_4, gP_9, gP_15, gP_21, gP_49, gR_0, gR_2, gR_4, gR_9, gR_15, gR_21, gR_49, gL_53, gL_54, oPz_0, oPz_1, Option.bind_some, c10, c01, cm1, c00, if_true, if_false, ne_eq, not_true_eq_false, not_false_eq_true]
    · simp only [f_X12_count, f_X12_count_0, h0, show ((3 : Int32) + 1 - 1) = 3 by decide, ps, gI_0, gI_2, gI_4, gI_9, gI_15, gI_21, gI_49, gP_0, gP_2, gP_4, gP_9, gP_15, gP_21, gP_49, gR_0, gR_2, gR_4, gR_9, gR_15, gR_21, gR_49, gL_53, gL_54, oPz_0, oPz_1, Option.bind_some, c10, c01, cm1, c00, if_true, if_false, ne_eq, not_true_eq_false, not_false_eq_true]
      rw [pc.2.2.2.2.1, pm.1 3 (by omega)]
  by_cases h2 : a = 2
  · subst h2
    refine ⟨F 4 5, m, F, L, T, up2 F 49 0 0, ?_, ?_, R.thr 0, by omega⟩
    · simp only [f_X11_count, f_X11_count_0, h0, h1, gI_0, gI_2, gI_4, gI_9, gI_15, gI_21, gI_49, gP_0, gP_2, gP_4, gP_9, gP_15, gP_21, gP_49, gR_0, gR_2, gR_4, gR_9, gR_15, gR_21, gR_49, gL_53, gL_54, oPz_0, oPz_1, Option.bind_some, c10, c01, cm1, c00, if_true, if_false, ne_eq, not_true_eq_false, not_false_eq_true]
    · simp only [f_X12_count, f_X12_count_0, h0, h1, show ((3 : Int32) + 2 - 1) = 4 by decide, ps, gI_0, gI_2, gI_4, gI_9, gI_15, gI_21, gI_49, gP_0, gP_2, gP_4, gP_9, gP_15, gP_21, gP_49, gR_0, gR_2, gR_4, gR_9, gR_15, gR_21, gR_49, gL_53, gL_54, oPz_0, oPz_1, Option.bind_some, c10, c01, cm1, c00, if_true, if_false, ne_eq, not_true_eq_false, not_false_eq_true]
      rw [pc.2.2.2.2.2.1, pm.1 4 (by omega)]
  by_cases h3 : a = 3
  · subst h3
    refine ⟨F 4 1, m, F, L, T, up2 F 49 0 0, ?_, ?_, R.thr 0, by omega⟩
    · simp only [f_X11_count, f_X11_count_0, h0, h1, h2, gI_0, gI_2, gI_4, gI_9, gI_15, gI_21, gI_49, gP_0, gP_2, gP_4, gP_9, gP_15, gP_21, gP_49, gR_0, gR_2, gR_4, gR_9, gR_15, gR_21, gR_49, gL_53, gL_54, oPz_0, oPz_1, Option.bind_some, c10, c01, cm1, c00, if_true, if_false, ne_eq, not_true_eq_false, not_false_eq_true]
    · simp only [f_X12_count, f_X12_count_0, h0, h1, h2, show ((3 : Int32) - 3) = 0 by decide, ps, gI_0, gI_2, gI_4, gI_9, gI_15, gI_21, gI_49, gP_0, gP_2, gP_4, gP_9, gP_15, gP_21, gP_49, gR_0, gR_2, gR_4, gR_9, gR_15, gR_21, gR_49, gL_53, gL_54, oPz_0, oPz_1, Option.bind_some, c10, c01, cm1, c00, if_true, if_false, ne_eq, not_true_eq_false, not_false_eq_true]
      rw [pc.2.1, pm.1 0 (by omega)]
  by_cases h4 : a = 4
  · subst h4
    refine ⟨F 4 2, m, F, L, T, up2 F 49 0 0, ?_, ?_, R.thr 0, by omega⟩
    · simp only [f_X11_count, f_X11_count_0, h0, h1, h2, h3, gI_0, gI_2, gI_4, gI_9, gI_15, gI_21, gI_49, gP_0, gP_2, gP_4, gP_9, gP_15, gP_21, gP_49, gR_0, gR_2, gR_4, gR_9, gR_15, gR_21, gR_49, gL_53, gL_54, oPz_0, oPz_1, Option.bind_some, c10, c01, cm1, c00, if_true, if_false, ne_eq, not_true_eq_false, not_false_eq_true]
    · simp only [f_X12_count, f_X12_count_0, h0, h1, h2, h3, show ((4 : Int32) - 3) = 1 by decide, ps, gI_0, gI_2, gI_4, gI_9, gI_15, gI_21, gI_49, gP_0, gP_2, gP_4, gP_9, gP_15, gP_21, gP_49, gR_0, gR_2, gR_4, gR_9, gR_15, gR_21, gR_49, gL_53, gL_54, oPz_0, oPz_1, Option.bind_some, c10, c01, cm1, c00, if_true, if_false, ne_eq, not_true_eq_false, not_false_eq_true]
      rw [pc.2.2.1, pm.1 1 (by omega)]
  by_cases h5 : a = 5
  · subst h5
    refine ⟨F 4 3, m, F, L, T, up2 F 49 0 0, ?_, ?_, R.thr 0, by omega⟩
    · simp only [f_X11_count, f_X11_count_0, h0, h1, h2, h3, h4, gI_0, gI_2, gI_4, gI_9, gI_15, gI_21, gI_49, gP_0, gP_2, gP_4, gP_9, gP_15, gP_21, gP_49, gR_0, gR_2, gR_4, gR_9, gR_15, gR_21, gR_49, gL_53, gL_54, oPz_0, oPz_1, Option.bind_some, c10, c01, cm1, c00, if_true, if_false, ne_eq, not_true_eq_false, not_false_eq_true]
    · simp only [f_X12_count, f_X12_count_0, h0, h1, h2, h3, h4, show ((5 : Int32) - 3) = 2 by decide, ps, gI_0, gI_2, gI_4, gI_9, gI_15, gI_21, gI_49, gP_0, gP_2, gP_4, gP_9, gP_15, gP_21, gP_49, gR_0, gR_2, gR_4, gR_9, gR_15, gR_21, gR_49, gL_53, gL_54, oPz_0, oPz_1, Option.bind_some, c10, c01, cm1, c00, if_true, if_false, ne_eq, not_true_eq_false, not_false_eq_true]
      rw [pc.2.2.2.1, pm.1 2 (by omega)]
  by_cases h6 : a = 6
  · subst h6
    obtain ⟨n, hn, t1, t2, -⟩ := R.2.1
    refine ⟨F 2 1, m, F, L, T, up2 F 49 0 0, ?_, ?_, R.thr 0, by omega⟩
    · simp only [f_X11_count, f_X11_count_0, h0, h1, h2, h3, h4, h5, gI_0, gI_2, gI_4, gI_9, gI_15, gI_21, gI_49, gP_0, gP_2, gP_4, gP_9, gP_15, gP_21, gP_49, gR_0, gR_2, gR_4, gR_9, gR_15, gR_21, gR_49, gL_53, gL_54, oPz_0, oPz_1, Option.bind_some, c10, c01, cm1, c00, if_true, if_false, ne_eq, not_true_eq_false, not_false_eq_true]
    · have e : up2 F 49 0 0 49 8 = F 2 1 := by simp (disch := omega) only [up2_ne, up2_o, up2_s]; rw [t1, t2]
      simp only [f_X12_count, f_X12_count_0, h0, h1, h2, h3, h4, h5, e, gI_0, gI_2, gI_4, gI_9, gI_15, gI_21, gI_49, gP_0, gP_2, gP_4, gP_9, gP_15, gP_21, gP_49, gR_0, gR_2, gR_4, gR_9, gR_15, gR_21, gR_49, gL_53, gL_54, oPz_0, oPz_1, Option.bind_some, c10, c01, cm1, c00, if_true, if_false, ne_eq, not_true_eq_false, not_false_eq_true]
  refine ⟨-1000001, m, F, L, T, up2 F 49 0 0, ?_, ?_, R.thr 0, by omega⟩
  · simp only [f_X11_count, f_X11_count_0, h0, h1, h2, h3, h4, h5, h6, gI_0, gI_2, gI_4, gI_9, gI_15, gI_21, gI_49, gP_0, gP_2, gP_4, gP_9, gP_15, gP_21, gP_49, gR_0, gR_2, gR_4, gR_9, gR_15, gR_21, gR_49, gL_53, gL_54, oPz_0, oPz_1, Option.bind_some, c10, c01, cm1, c00, if_true, if_false, ne_eq, not_true_eq_false, not_false_eq_true]
  · simp only [f_X12_count, f_X12_count_0, h0, h1, h2, h3, h4, h5, h6, gI_0, gI_2, gI_4, gI_9, gI_15, gI_21, gI_49, gP_0, gP_2, gP_4, gP_9, gP_15, gP_21, gP_49, gR_0, gR_2, gR_4, gR_9, gR_15, gR_21, gR_49, gL_53, gL_54, oPz_0, oPz_1, Option.bind_some, c10, c01, cm1, c00, if_true, if_false, ne_eq, not_true_eq_false, not_false_eq_true]
theorem stN_congr {P Q : Nat → Nat} (h3 : Q 3 = P 3) (h : ∀ t, t < P 3 → Q (5 + 2 * t) = P (5 + 2 * t)) : stN Q = stN P := by
  unfold stN
  rw [h3]
  exact sumN_congr (fun k hk => by rw [h k hk])
theorem o_undo (N : Nat) (hN : 5000 ≤ N) (m : Nat) (F : Nat → Nat → Int32) (L : Nat → Nat → Option Nat) (T : Nat → Nat) (hm : m ≤ 3000) (R : Rel m F L T) : OpOk (fun A => f_X11_undo N A (some 0) ) (fun A => f_X12_undo N A (some 49) ) m F L T := by
  obtain ⟨P, pv, pm, pc, sr⟩ := R.2.2.1
  have hd : P 4 ≤ 24 := pv.2.2.2.2.1
  have c5 : F 4 5 = nI (P 4) := pc.2.2.2.2.2.1
  have m4 : F 53 4 = nI (P 4) := pm.1 4 (by omega)
  by_cases h0 : P 4 = 0
  · refine ⟨-1000002, m, F, L, T, up2 F 49 0 0, ?_, ?_, R.thr 0, by omega⟩
    · have e : ¬ (0 : Int32) < F 4 5 := by rw [c5, h0]; decide
      simp only [f_X11_undo, f_X11_undo_0, e, gI_0, gI_2, gI_4, gI_9, gI_15, gI_21, gI_49, gP_0, gP_2, gP_4, gP_9, gP_15, gP_21, gP_49, gR_0, gR_2, gR_4, gR_9, gR_15, gR_21, gR_49, gL_53, gL_54, oPz_0, oPz_1, Option.bind_some, c10, c01, cm1, c00, if_true, if_false, ne_eq, not_true_eq_false, not_false_eq_true]
    · have e : up2 F 49 0 0 53 4 = 0 := by simp (disch := omega) only [up2_ne, up2_o, up2_s]; rw [m4, h0]; rfl
      simp only [f_X12_undo, f_X12_undo_0, e, gI_0, gI_2, gI_4, gI_9, gI_15, gI_21, gI_49, gP_0, gP_2, gP_4, gP_9, gP_15, gP_21, gP_49, gR_0, gR_2, gR_4, gR_9, gR_15, gR_21, gR_49, gL_53, gL_54, oPz_0, oPz_1, Option.bind_some, c10, c01, cm1, c00, if_true, if_false, ne_eq, not_true_eq_false, not_false_eq_true]
  · have e4 : nI (P 4) - 1 = nI (P 4 - 1) := pk_sub (a := P 4) (b := 1) (by omega)
    refine ⟨nI (P 4 - 1), m, up2 (up2 F 4 5 (nI (P 4 - 1))) 15 1 0, L, T, up2 (up2 (up2 (up2 F 4 5 (nI (P 4 - 1))) 15 1 0) 49 0 0) 53 4 (nI (P 4 - 1)), ?_, ?_, ?_, by omega⟩
    · have e : (0 : Int32) < nI (P 4) := nI_lt (a := 0) (by omega) (by omega)
      have e2 : up2 (up2 F 4 5 (nI (P 4 - 1))) 15 1 0 4 5 = nI (P 4 - 1) := by simp (disch := omega) only [up2_ne, up2_o, up2_s]
      simp only [f_X11_undo, f_X11_undo_0, e, c5, e4, f_X10_forget, f_X10_forget_0, e2, gI_0, gI_2, gI_4, gI_9, gI_15, gI_21, gI_49, gP_0, gP_2, gP_4, gP_9, gP_15, gP_21, gP_49, gR_0, gR_2, gR_4, gR_9, gR_15, gR_21, gR_49, gL_53, gL_54, oPz_0, oPz_1, Option.bind_some, c10, c01, cm1, c00, if_true, if_false, ne_eq, not_true_eq_false, not_false_eq_true]
    · have e : up2 (up2 (up2 F 4 5 (nI (P 4 - 1))) 15 1 0) 49 0 0 53 4 = nI (P 4) := by simp (disch := omega) only [up2_ne, up2_o, up2_s]; exact m4
      have e0 : ¬ nI (P 4) = 0 := nI_ne0 (by omega) (by omega)
      simp only [f_X12_undo, f_X12_undo_0, e, e0, e4, up2_s, gI_0, gI_2, gI_4, gI_9, gI_15, gI_21, gI_49, gP_0, gP_2, gP_4, gP_9, gP_15, gP_21, gP_49, gR_0, gR_2, gR_4, gR_9, gR_15, gR_21, gR_49, gL_53, gL_54, oPz_0, oPz_1, Option.bind_some, c10, c01, cm1, c00, if_true, if_false, ne_eq, not_true_eq_false, not_false_eq_true]
    · refine R.scr (fun p hp => by simp (disch := omega) only [up2_ne, up2_o, up2_s]) ?_ (by have := R.2.2.2.2.1; simp (disch := omega) only [up2_ne, up2_o, up2_s]; exact this) (by have := R.2.2.2.2.2.1; simp (disch := omega) only [up2_ne, up2_o, up2_s]; exact this) (by simp (disch := omega) only [up2_ne, up2_o, up2_s]) (by simp (disch := omega) only [up2_ne, up2_o, up2_s]) (by simp (disch := omega) only [up2_ne, up2_o, up2_s]) (by simp (disch := omega) only [up2_ne, up2_o, up2_s])
      have u4 : ∀ k, k ≠ 4 → up P 4 (P 4 - 1) k = P k := fun k hk => up_n2 hk
      have u44 : up P 4 (P 4 - 1) 4 = P 4 - 1 := up_s _ _ _
      refine ⟨up P 4 (P 4 - 1), ?_, ?_, ?_, Or.inl (by simp (disch := omega) only [up2_ne, up2_o, up2_s])⟩
      · unfold PV
        rw [u44, u4 0 (by omega), u4 1 (by omega), u4 2 (by omega), u4 3 (by omega)]
        refine ⟨pv.1, pv.2.1, pv.2.2.1, pv.2.2.2.1, by omega, fun h => ?_, pv.2.2.2.2.2.2.1, fun i hi => ?_, fun j hj => ?_⟩
        · have := pv.2.2.2.2.2.1 h; omega
        · rw [u4 _ (by omega), u4 _ (by omega)]; exact pv.2.2.2.2.2.2.2.1 i hi
        · rw [u4 _ (by omega)]; exact pv.2.2.2.2.2.2.2.2 j (by omega)
      · refine ⟨fun i hi => ?_, fun i hi => ?_, fun j hj => ?_⟩
        · by_cases hi4 : i = 4
          · subst hi4; rw [up2_s, u44]
          · rw [up2_o hi4, u4 i hi4]; simp (disch := omega) only [up2_ne, up2_o, up2_s]; exact pm.1 i hi
        · rw [u4 3 (by omega)] at hi
          rw [up2_o (by omega), up2_o (by omega), u4 _ (by omega), u4 _ (by omega)]; simp (disch := omega) only [up2_ne, up2_o, up2_s]
          exact pm.2.1 i hi
        · rw [u44] at hj
          rw [up2_o (by omega), u4 _ (by omega)]; simp (disch := omega) only [up2_ne, up2_o, up2_s]
          exact pm.2.2 j (by omega)
      · unfold PC
        rw [u44, u4 0 (by omega), u4 1 (by omega), u4 2 (by omega), u4 3 (by omega), stN_congr (P := P) (u4 3 (by omega)) (fun t _ => u4 _ (by omega))]
        simp (disch := omega) only [up2_ne, up2_o, up2_s]
        refine ⟨pc.1, pc.2.1, pc.2.2.1, pc.2.2.2.1, pc.2.2.2.2.1, trivial, pc.2.2.2.2.2.2.1, fun i hi => ?_, fun j hj => ?_, fun i hi => ?_⟩
        · rw [u4 3 (by omega)] at hi
          obtain ⟨t, q1, q2, q3, q4, q5, q6⟩ := pc.2.2.2.2.2.2.2.1 i hi
          refine ⟨t, q1, q2, q3, ?_, ?_, ?_⟩
          · rw [u4 _ (by omega)]; exact q4
          · simp (disch := omega) only [up2_ne, up2_o, up2_s]; exact q5
          · rw [u4 _ (by omega)]; simp (disch := omega) only [up2_ne, up2_o, up2_s]; exact q6
        · rw [u4 _ (by omega)]
          exact pc.2.2.2.2.2.2.2.2.1 j (by omega)
        · rw [u4 _ (by omega)]
          exact pc.2.2.2.2.2.2.2.2.2 i hi
