theorem cG_r {r : Nat} (hr : r < 8) (f : Nat → Int32) (g : Nat → Option Nat) (t : Nat) : cG (24 + 2 * r) f g t = .inl (0, 40, .inl f) := by
  match r, hr with
  | 0, _ => rfl
  | 1, _ => rfl
  | 2, _ => rfl
  | 3, _ => rfl
  | 4, _ => rfl
  | 5, _ => rfl
  | 6, _ => rfl
  | 7, _ => rfl
  | k + 8, h => exact absurd h (by omega)
theorem oK_r {m a b i j n : Nat} {F : Nat → Nat → Int32} {L : Nat → Nat → Option Nat} {T : Nat → Nat} (ha : a < 8) (hb : b < 8) (h1 : i + n ≤ 40) (h2 : j + n ≤ 40) : oK (Hp m F L T) (some (24 + 2 * a)) (nI i) (some (24 + 2 * b)) (nI j) (nI n) = some (Hp m (up F (24 + 2 * b) (va_cpy (F (24 + 2 * a)) (F (24 + 2 * b)) i j n)) L T) := by
  have e1 : (nI i).toNatClampNeg = i := nI_clamp (by omega)
  have e2 : (nI j).toNatClampNeg = j := nI_clamp (by omega)
  have e3 : (nI n).toNatClampNeg = n := nI_clamp (by omega)
  simp only [oK, Hp_get (show 24 + 2 * a < 62 + m by omega), Hp_get (show 24 + 2 * b < 62 + m by omega), cG_r ha, cG_r hb, e1, e2, e3]
  rw [if_pos ⟨trivial, trivial, nI_pos (by omega), nI_pos (by omega), nI_pos (by omega), h1, h2⟩, Hp_setF (cG_r hb _ _ _).symm]
def vld (x y : Int32) (s : Nat) : Prop := 0 ≤ x.toInt ∧ 0 ≤ y.toInt ∧ x.toInt + y.toInt ≤ s
theorem lt0 {x : Int32} : x < 0 ↔ x.toInt < 0 := by rw [Int32.lt_iff_toInt_lt]; rfl
theorem X3_has_n {N m r s : Nat} {F : Nat → Nat → Int32} {L : Nat → Nat → Option Nat} {T : Nat → Nat} {x y : Int32} (hr : r < 8) (hs : s ≤ 40) (h2 : F (23 + 2 * r) 2 = nI s) (h : ¬ vld x y s) : f_X3_hasPlaces N (Hp m F L T) (some (23 + 2 * r)) x y = some (0, Hp m F L T) := by
  by_cases hx : x < 0
  · simp only [f_X3_hasPlaces, f_X3_hasPlaces_0, f_X3_hasPlaces_30, f_X3_hasPlaces_31, hx, true_or, gI_0, gI_2, gI_4, gI_9, gI_15, gI_21, gI_49, gP_0, gP_2, gP_4, gP_9, gP_15, gP_21, gP_49, gR_0, gR_2, gR_4, gR_9, gR_15, gR_21, gR_49, gL_53, gL_54, oPz_0, oPz_1, Option.bind_some, c10, c01, cm1, c00, if_true, if_false, ne_eq, not_true_eq_false, not_false_eq_true]
  by_cases hy : y < 0
  · simp only [f_X3_hasPlaces, f_X3_hasPlaces_0, f_X3_hasPlaces_30, f_X3_hasPlaces_31, hx, hy, true_or, gI_0, gI_2, gI_4, gI_9, gI_15, gI_21, gI_49, gP_0, gP_2, gP_4, gP_9, gP_15, gP_21, gP_49, gR_0, gR_2, gR_4, gR_9, gR_15, gR_21, gR_49, gL_53, gL_54, oPz_0, oPz_1, Option.bind_some, c10, c01, cm1, c00, if_true, if_false, ne_eq, not_true_eq_false, not_false_eq_true]
  by_cases hz : nI s < x
  · simp only [f_X3_hasPlaces, f_X3_hasPlaces_0, f_X3_hasPlaces_30, f_X3_hasPlaces_31, hx, hy, gI_r2 hr, h2, hz, true_or, gI_0, gI_2, gI_4, gI_9, gI_15, gI_21, gI_49, gP_0, gP_2, gP_4, gP_9, gP_15, gP_21, gP_49, gR_0, gR_2, gR_4, gR_9, gR_15, gR_21, gR_49, gL_53, gL_54, oPz_0, oPz_1, Option.bind_some, c10, c01, cm1, c00, if_true, if_false, ne_eq, not_true_eq_false, not_false_eq_true]
  have h3 : nI s - x < y := by
    rw [lt0] at hx hy
    have hz' : x.toInt ≤ s := by
      have := Int32.le_iff_toInt_le.mp (Int32.not_lt.mp hz)
      rwa [nI_toInt (by omega)] at this
    obtain ⟨k, hk, rfl⟩ := nI_of (x := x) (by rw [lt0]; exact hx)
    rw [nI_toInt hk] at hz' hx
    rw [pk_sub (by omega), Int32.lt_iff_toInt_lt, nI_toInt (by omega)]
    rw [vld, nI_toInt hk] at h
    omega
  simp only [f_X3_hasPlaces, f_X3_hasPlaces_0, f_X3_hasPlaces_30, f_X3_hasPlaces_31, hx, hy, gI_r2 hr, h2, hz, h3, true_or, gI_0, gI_2, gI_4, gI_9, gI_15, gI_21, gI_49, gP_0, gP_2, gP_4, gP_9, gP_15, gP_21, gP_49, gR_0, gR_2, gR_4, gR_9, gR_15, gR_21, gR_49, gL_53, gL_54, oPz_0, oPz_1, Option.bind_some, c10, c01, cm1, c00, if_true, if_false, ne_eq, not_true_eq_false, not_false_eq_true]
theorem X3_has_y {N m r s i n : Nat} {F : Nat → Nat → Int32} {L : Nat → Nat → Option Nat} {T : Nat → Nat} (hr : r < 8) (hs : s ≤ 40) (h2 : F (23 + 2 * r) 2 = nI s) (h : i + n ≤ s) : f_X3_hasPlaces N (Hp m F L T) (some (23 + 2 * r)) (nI i) (nI n) = some (1, Hp m F L T) := by
  have hx : ¬ nI i < 0 := nI_pos (by omega)
  have hy : ¬ nI n < 0 := nI_pos (by omega)
  have hz : ¬ nI s < nI i := nI_nlt (by omega) (by omega)
  have h3 : ¬ nI (s - i) < nI n := nI_nlt (by omega) (by omega)
  have e : nI s - nI i = nI (s - i) := pk_sub (by omega)
  simp only [f_X3_hasPlaces, f_X3_hasPlaces_0, f_X3_hasPlaces_30, f_X3_hasPlaces_31, hx, hy, gI_r2 hr, h2, hz, e, h3, or_true, gI_0, gI_2, gI_4, gI_9, gI_15, gI_21, gI_49, gP_0, gP_2, gP_4, gP_9, gP_15, gP_21, gP_49, gR_0, gR_2, gR_4, gR_9, gR_15, gR_21, gR_49, gL_53, gL_54, oPz_0, oPz_1, Option.bind_some, c10, c01, cm1, c00, if_true, if_false, ne_eq, not_true_eq_false, not_false_eq_true]
theorem lg_gt (a b : Int64) : (0 < lg_cmp a b) ↔ b < a := by
  unfold lg_cmp
  split
  · rename_i h
    exact ⟨fun _ => h, fun _ => by decide⟩
  · split
    · rename_i h h2; subst h2
      constructor
      · intro q; exact absurd q (by decide)
      · intro q; exact absurd q (Int64.lt_irrefl)
    · rename_i h h2
      constructor
      · intro q; exact absurd q (by decide)
      · intro q; exact absurd q h
theorem i64_sum (x y : Int32) (s : Nat) (hs : s ≤ 40) : ((nI s).toInt64 < x.toInt64 + y.toInt64) ↔ (s : Int) < x.toInt + y.toInt := by
  have hx1 := Int32.le_toInt x
  have hx2 := Int32.toInt_lt x
  have hy1 := Int32.le_toInt y
  have hy2 := Int32.toInt_lt y
  rw [Int64.lt_iff_toInt_lt, Int32.toInt_toInt64, nI_toInt (by omega), Int64.toInt_add, Int32.toInt_toInt64, Int32.toInt_toInt64]
  have : (x.toInt + y.toInt).bmod (2 ^ 64) = x.toInt + y.toInt := by
    apply Int.bmod_eq_of_le <;> omega
  rw [this]
theorem cpy_up {O : Nat → Int32} {s d k : Nat} (h : d ≤ s ∨ s + k < d) : upd (va_cpy O O s d k) (d + k) (va_cpy O O s d k (s + k)) = va_cpy O O s d (k + 1) := by
  have e : va_cpy O O s d k (s + k) = O (s + k) := by
    unfold va_cpy; rw [if_neg (by omega)]
  rw [e]
  funext q
  unfold upd va_cpy
  by_cases h1 : q = d + k
  · subst h1
    rw [if_pos rfl, if_pos (by omega)]
    congr 1; omega
  · rw [if_neg h1]
    by_cases h2 : d ≤ q ∧ q < d + k
    · rw [if_pos h2, if_pos (by omega)]
    · rw [if_neg h2, if_neg (by omega)]
theorem cpy_dn {O : Nat → Int32} {s d c k : Nat} (hk : k < c) (h : s ≤ d ∨ d + c ≤ s) : upd (va_cpy O O (s + c - k) (d + c - k) k) (d + (c - 1 - k)) (va_cpy O O (s + c - k) (d + c - k) k (s + (c - 1 - k))) = va_cpy O O (s + c - (k + 1)) (d + c - (k + 1)) (k + 1) := by
  have e : va_cpy O O (s + c - k) (d + c - k) k (s + (c - 1 - k)) = O (s + (c - 1 - k)) := by
    unfold va_cpy; rw [if_neg (by omega)]
  rw [e]
  funext q
  unfold upd va_cpy
  by_cases h1 : q = d + (c - 1 - k)
  · subst h1
    rw [if_pos rfl, if_pos (by omega)]
    congr 1; omega
  · rw [if_neg h1]
    by_cases h2 : d + c - k ≤ q ∧ q < d + c - k + k
    · rw [if_pos h2, if_pos (by omega)]
      congr 1; omega
    · rw [if_neg h2, if_neg (by omega)]
theorem cpy_0 {O : Nat → Int32} {s d : Nat} : va_cpy O O s d 0 = O := by
  funext q; unfold va_cpy; rw [if_neg (by omega)]
theorem up2_as {F : Nat → Nat → Int32} {p k : Nat} {v : Int32} {O : Nat → Int32} : up2 (up F p O) p k v = up F p (upd O k v) := by
  unfold up2; rw [up_s, up_up]
theorem ix40b (a i k : Nat) : (40 : Int32) * nI a + nI i + nI k = nI (40 * a + i + k) := by rw [ix40, nI_add]
theorem X12_cpU {N m a b i j c : Nat} {L : Nat → Nat → Option Nat} {T : Nat → Nat} (ha : a < 8) (hb : b < 8) (h1 : i + c ≤ 40) (h2 : j + c ≤ 40) (hd : 40 * b + j ≤ 40 * a + i ∨ 40 * a + i + c ≤ 40 * b + j) (F : Nat → Nat → Int32) (O : Nat → Int32) : ∀ (n k : Nat), k ≤ c → c < k + n → f_X12_copy_143 N n (Hp m (up F 52 (va_cpy O O (40 * a + i) (40 * b + j) k)) L T) (some 49) (nI a) (nI i) (nI b) (nI j) (nI c) 1 (nI k) = some (nI c, Hp m (up F 52 (va_cpy O O (40 * a + i) (40 * b + j) c)) L T) := by
  intro n
  induction n with
  | zero => intro k h3 h4; omega
  | succ n ih =>
    intro k h3 h4
    rw [f_X12_copy_143]
    by_cases hk : k = c
    · subst hk
      have e : nI k ≤ nI k := Int32.le_refl _
      rw [if_pos e]
    · have e : ¬ nI c ≤ nI k := nI_ge (by omega) (by omega)
      rw [if_neg e]
      simp only [f_X12_copy_167, ix40b, (gN_52 (show 40 * a + i + k < 320 by omega)).1, (gN_52 (show 40 * b + j + k < 320 by omega)).2, nI_1, up_s, up2_as, gI_0, gI_2, gI_4, gI_9, gI_15, gI_21, gI_49, gP_0, gP_2, gP_4, gP_9, gP_15, gP_21, gP_49, gR_0, gR_2, gR_4, gR_9, gR_15, gR_21, gR_49, gL_53, gL_54, oPz_0, oPz_1, Option.bind_some, c10, c01, cm1, c00, if_true, if_false, ne_eq, not_true_eq_false, not_false_eq_true]
      rw [cpy_up (by omega)]
      exact ih (k + 1) (by omega) (by omega)
theorem X12_cpD {N m a b i j c : Nat} {L : Nat → Nat → Option Nat} {T : Nat → Nat} (ha : a < 8) (hb : b < 8) (h1 : i + c ≤ 40) (h2 : j + c ≤ 40) (hd : 40 * a + i ≤ 40 * b + j ∨ 40 * b + j + c ≤ 40 * a + i) (F : Nat → Nat → Int32) (O : Nat → Int32) : ∀ (n k : Nat), k ≤ c → c < k + n → f_X12_copy_143 N n (Hp m (up F 52 (va_cpy O O (40 * a + i + c - k) (40 * b + j + c - k) k)) L T) (some 49) (nI a) (nI i) (nI b) (nI j) (nI c) 0 (nI k) = some (nI c, Hp m (up F 52 (va_cpy O O (40 * a + i) (40 * b + j) c)) L T) := by
  intro n
  induction n with
  | zero => intro k h3 h4; omega
  | succ n ih =>
    intro k h3 h4
    rw [f_X12_copy_143]
    by_cases hk : k = c
    · subst hk
      have e : nI k ≤ nI k := Int32.le_refl _
      rw [if_pos e, Nat.add_sub_cancel, Nat.add_sub_cancel]
    · have e : ¬ nI c ≤ nI k := nI_ge (by omega) (by omega)
      have e2 : nI c - 1 - nI k = nI (c - 1 - k) := by
        rw [show nI c - 1 = nI (c - 1) from pk_sub (a := c) (b := 1) (by omega), pk_sub (by omega)]
      rw [if_neg e]
      simp only [f_X12_copy_167, e2, ix40b, (gN_52 (show 40 * a + i + (c - 1 - k) < 320 by omega)).1, (gN_52 (show 40 * b + j + (c - 1 - k) < 320 by omega)).2, nI_1, up_s, up2_as, gI_0, gI_2, gI_4, gI_9, gI_15, gI_21, gI_49, gP_0, gP_2, gP_4, gP_9, gP_15, gP_21, gP_49, gR_0, gR_2, gR_4, gR_9, gR_15, gR_21, gR_49, gL_53, gL_54, oPz_0, oPz_1, Option.bind_some, c10, c01, cm1, c00, if_true, if_false, ne_eq, not_true_eq_false, not_false_eq_true]
      rw [cpy_dn (by omega) (by omega)]
      exact ih (k + 1) (by omega) (by omega)
theorem o_copy (N : Nat) (hN : 5000 ≤ N) (m : Nat) (F : Nat → Nat → Int32) (L : Nat → Nat → Option Nat) (T : Nat → Nat) (hm : m ≤ 3000) (R : Rel m F L T) (a b c d e : Int32) : OpOk (fun A => f_X11_copy N A (some 0) a b c d e) (fun A => f_X12_copy N A (some 49) a b c d e) m F L T := by
  have bad1 : (a < 0 ∨ nI 8 ≤ a) → OpOk (fun A => f_X11_copy N A (some 0) a b c d e) (fun A => f_X12_copy N A (some 49) a b c d e) m F L T := by
    intro h
    refine ⟨-1000001, m, F, L, T, up2 F 49 0 0, ?_, ?_, R.thr 0, by omega⟩
    · simp only [f_X11_copy, f_X11_copy_0, f_X11_copy_14, X11_isRow_n h, gI_0, gI_2, gI_4, gI_9, gI_15, gI_21, gI_49, gP_0, gP_2, gP_4, gP_9, gP_15, gP_21, gP_49, gR_0, gR_2, gR_4, gR_9, gR_15, gR_21, gR_49, gL_53, gL_54, oPz_0, oPz_1, Option.bind_some, c10, c01, cm1, c00, if_true, if_false, ne_eq, not_true_eq_false, not_false_eq_true]
    · simp only [f_X12_copy, f_X12_copy_0, f_X12_copy_19, X12_isRow_n h, gI_0, gI_2, gI_4, gI_9, gI_15, gI_21, gI_49, gP_0, gP_2, gP_4, gP_9, gP_15, gP_21, gP_49, gR_0, gR_2, gR_4, gR_9, gR_15, gR_21, gR_49, gL_53, gL_54, oPz_0, oPz_1, Option.bind_some, c10, c01, cm1, c00, if_true, if_false, ne_eq, not_true_eq_false, not_false_eq_true]
  rcases pk_ix a (n := 8) (by decide) with h | h | ⟨r, hr, rfl⟩
  · exact bad1 (Or.inl h)
  · exact bad1 (Or.inr h)
  clear bad1
  have bad2 : (c < 0 ∨ nI 8 ≤ c) → OpOk (fun A => f_X11_copy N A (some 0) (nI r) b c d e) (fun A => f_X12_copy N A (some 49) (nI r) b c d e) m F L T := by
    intro h
    refine ⟨-1000001, m, F, L, T, up2 F 49 0 0, ?_, ?_, R.thr 0, by omega⟩
    · simp only [f_X11_copy, f_X11_copy_0, f_X11_copy_14, X11_isRow_y hr, X11_isRow_n h, gI_0, gI_2, gI_4, gI_9, gI_15, gI_21, gI_49, gP_0, gP_2, gP_4, gP_9, gP_15, gP_21, gP_49, gR_0, gR_2, gR_4, gR_9, gR_15, gR_21, gR_49, gL_53, gL_54, oPz_0, oPz_1, Option.bind_some, c10, c01, cm1, c00, if_true, if_false, ne_eq, not_true_eq_false, not_false_eq_true]
    · simp only [f_X12_copy, f_X12_copy_0, f_X12_copy_19, X12_isRow_y hr, X12_isRow_n h, gI_0, gI_2, gI_4, gI_9, gI_15, gI_21, gI_49, gP_0, gP_2, gP_4, gP_9, gP_15, gP_21, gP_49, gR_0, gR_2, gR_4, gR_9, gR_15, gR_21, gR_49, gL_53, gL_54, oPz_0, oPz_1, Option.bind_some, c10, c01, cm1, c00, if_true, if_false, ne_eq, not_true_eq_false, not_false_eq_true]
  rcases pk_ix c (n := 8) (by decide) with h | h | ⟨q, hq, rfl⟩
  · exact bad2 (Or.inl h)
  · exact bad2 (Or.inr h)
  clear bad2
  obtain ⟨h1, h2, ⟨s, hs, h3⟩, h4⟩ := R.1 r hr
  obtain ⟨g1, g2, ⟨t, ht, g3⟩, g4⟩ := R.1 q hq
  have h3' : F (23 + 2 * r) 2 = nI s := h2.symm.trans h3
  have g3' : F (23 + 2 * q) 2 = nI t := g2.symm.trans g3
  have nul : (F (23 + 2 * r) 0 = 0 ∨ F (23 + 2 * q) 0 = 0) → OpOk (fun A => f_X11_copy N A (some 0) (nI r) b (nI q) d e) (fun A => f_X12_copy N A (some 49) (nI r) b (nI q) d e) m F L T := by
    intro h
    refine ⟨-1000011, m, up2 F 0 8 1, L, T, _, ?_, ?_, R.fnd 1, by omega⟩
    · by_cases ha : F (23 + 2 * r) 0 = 0
      · simp only [f_X11_copy, f_X11_copy_0, f_X11_copy_49, X11_isRow_y hr, X11_isRow_y hq, gN_1 hr, gN_1 hq, gI_r0 hr, ha, f_X11_found, f_X11_found_0, gI_0, gI_2, gI_4, gI_9, gI_15, gI_21, gI_49, gP_0, gP_2, gP_4, gP_9, gP_15, gP_21, gP_49, gR_0, gR_2, gR_4, gR_9, gR_15, gR_21, gR_49, gL_53, gL_54, oPz_0, oPz_1, Option.bind_some, c10, c01, cm1, c00, if_true, if_false, ne_eq, not_true_eq_false, not_false_eq_true]
        rfl
      · have hb : F (23 + 2 * q) 0 = 0 := by rcases h with h | h; exact absurd h ha; exact h
        simp only [f_X11_copy, f_X11_copy_0, f_X11_copy_49, X11_isRow_y hr, X11_isRow_y hq, gN_1 hr, gN_1 hq, gI_r0 hr, gI_r0 hq, ha, hb, f_X11_found, f_X11_found_0, gI_0, gI_2, gI_4, gI_9, gI_15, gI_21, gI_49, gP_0, gP_2, gP_4, gP_9, gP_15, gP_21, gP_49, gR_0, gR_2, gR_4, gR_9, gR_15, gR_21, gR_49, gL_53, gL_54, oPz_0, oPz_1, Option.bind_some, c10, c01, cm1, c00, if_true, if_false, ne_eq, not_true_eq_false, not_false_eq_true]
        rfl
    · have e1 : up2 (up2 (up2 F 0 8 1) 49 0 0) 49 1 0 50 r = F 50 r := by simp (disch := omega) only [up2_ne, up2_o, up2_s]
      have e2 : up2 (up2 (up2 F 0 8 1) 49 0 0) 49 1 0 50 q = F 50 q := by simp (disch := omega) only [up2_ne, up2_o, up2_s]
      by_cases ha : F 50 r < 0
      · simp only [f_X12_copy, f_X12_copy_0, f_X12_copy_45, X12_isRow_y hr, X12_isRow_y hq, (gN_50 hr).1, e1, ha, f_X12_finding, f_X12_finding_0, gI_0, gI_2, gI_4, gI_9, gI_15, gI_21, gI_49, gP_0, gP_2, gP_4, gP_9, gP_15, gP_21, gP_49, gR_0, gR_2, gR_4, gR_9, gR_15, gR_21, gR_49, gL_53, gL_54, oPz_0, oPz_1, Option.bind_some, c10, c01, cm1, c00, if_true, if_false, ne_eq, not_true_eq_false, not_false_eq_true]
        rfl
      · have hb : ¬ (0 : Int32) ≤ F 50 q := by
          rcases h with h | h
          · rcases h1 with ⟨k1, k2⟩ | ⟨k1, k2, k3⟩
            · rw [k2] at ha; exact absurd (by decide) ha
            · rw [h] at k1; exact absurd k1 (by decide)
          · rcases g1 with ⟨k1, k2⟩ | ⟨k1, k2, k3⟩
            · rw [k2]; decide
            · rw [h] at k1; exact absurd k1 (by decide)
        simp only [f_X12_copy, f_X12_copy_0, f_X12_copy_45, X12_isRow_y hr, X12_isRow_y hq, (gN_50 hr).1, (gN_50 hq).1, e1, e2, ha, hb, f_X12_finding, f_X12_finding_0, gI_0, gI_2, gI_4, gI_9, gI_15, gI_21, gI_49, gP_0, gP_2, gP_4, gP_9, gP_15, gP_21, gP_49, gR_0, gR_2, gR_4, gR_9, gR_15, gR_21, gR_49, gL_53, gL_54, oPz_0, oPz_1, Option.bind_some, c10, c01, cm1, c00, if_true, if_false, ne_eq, not_true_eq_false, not_false_eq_true]
        rfl
  rcases h1 with ⟨k1, k2⟩ | ⟨k1, k2, k3⟩
  · exact nul (Or.inl k1)
  rcases g1 with ⟨l1, l2⟩ | ⟨l1, l2, l3⟩
  · exact nul (Or.inr l1)
  clear nul
  have n1 : ¬ F 50 r < 0 := by rcases k3 with h | h | h <;> rw [h] <;> decide
  have n2 : ((0 : Int32) ≤ F 50 q) = True := eq_true (by rcases l3 with h | h | h <;> rw [h] <;> decide)
  by_cases hl : F 50 r = F 50 q
  case neg =>
    refine ⟨-1000015, m, up2 F 0 8 5, L, T, _, ?_, ?_, R.fnd 5, by omega⟩
    · have hl' : ¬ F (23 + 2 * r) 1 = F (23 + 2 * q) 1 := by rw [← k2, ← l2]; exact hl
      simp only [f_X11_copy, f_X11_copy_0, f_X11_copy_49, X11_isRow_y hr, X11_isRow_y hq, gN_1 hr, gN_1 hq, gI_r0 hr, gI_r0 hq, gI_r1 hr, gI_r1 hq, k1, l1, hl', f_X11_found, f_X11_found_0, gI_0, gI_2, gI_4, gI_9, gI_15, gI_21, gI_49, gP_0, gP_2, gP_4, gP_9, gP_15, gP_21, gP_49, gR_0, gR_2, gR_4, gR_9, gR_15, gR_21, gR_49, gL_53, gL_54, oPz_0, oPz_1, Option.bind_some, c10, c01, cm1, c00, if_true, if_false, ne_eq, not_true_eq_false, not_false_eq_true]
      rfl
    · have e1 : up2 (up2 (up2 F 0 8 5) 49 0 0) 49 1 0 50 r = F 50 r := by simp (disch := omega) only [up2_ne, up2_o, up2_s]
      have e2 : up2 (up2 (up2 F 0 8 5) 49 0 0) 49 1 0 50 q = F 50 q := by simp (disch := omega) only [up2_ne, up2_o, up2_s]
      simp only [f_X12_copy, f_X12_copy_0, f_X12_copy_45, X12_isRow_y hr, X12_isRow_y hq, (gN_50 hr).1, (gN_50 hq).1, e1, e2, n1, n2, hl, f_X12_finding, f_X12_finding_0, gI_0, gI_2, gI_4, gI_9, gI_15, gI_21, gI_49, gP_0, gP_2, gP_4, gP_9, gP_15, gP_21, gP_49, gR_0, gR_2, gR_4, gR_9, gR_15, gR_21, gR_49, gL_53, gL_54, oPz_0, oPz_1, Option.bind_some, c10, c01, cm1, c00, if_true, if_false, ne_eq, not_true_eq_false, not_false_eq_true]
      rfl
  have n1' : ¬ F 50 q < 0 := by rcases l3 with h | h | h <;> rw [h] <;> decide
  have hl' : F (23 + 2 * r) 1 = F (23 + 2 * q) 1 := by rw [← k2, ← l2]; exact hl
  by_cases hv : vld b e s ∧ vld d e t
  case neg =>
    refine ⟨-1000012, m, up2 F 0 8 2, L, T, _, ?_, ?_, R.fnd 2, by omega⟩
    · by_cases hv1 : vld b e s
      · have hv2 : ¬ vld d e t := fun x => hv ⟨hv1, x⟩
        obtain ⟨b', hb', rfl⟩ := nI_of (x := b) (by rw [lt0]; have := hv1.1; omega)
        obtain ⟨e', he', rfl⟩ := nI_of (x := e) (by rw [lt0]; have := hv1.2.1; omega)
        have hv3 : b' + e' ≤ s := by have := hv1.2.2; rw [nI_toInt hb', nI_toInt he'] at this; omega
        simp only [f_X11_copy, f_X11_copy_0, f_X11_copy_97, X11_isRow_y hr, X11_isRow_y hq, gN_1 hr, gN_1 hq, gI_r0 hr, gI_r0 hq, gI_r1 hr, gI_r1 hq, gR_r hr, gR_r hq, k1, l1, hl', X3_has_y hr hs h3' hv3, X3_has_n hq ht g3' hv2, f_X11_found, f_X11_found_0, gI_0, gI_2, gI_4, gI_9, gI_15, gI_21, gI_49, gP_0, gP_2, gP_4, gP_9, gP_15, gP_21, gP_49, gR_0, gR_2, gR_4, gR_9, gR_15, gR_21, gR_49, gL_53, gL_54, oPz_0, oPz_1, Option.bind_some, c10, c01, cm1, c00, if_true, if_false, ne_eq, not_true_eq_false, not_false_eq_true]
        rfl
      · simp only [f_X11_copy, f_X11_copy_0, f_X11_copy_97, X11_isRow_y hr, X11_isRow_y hq, gN_1 hr, gN_1 hq, gI_r0 hr, gI_r0 hq, gI_r1 hr, gI_r1 hq, gR_r hr, gR_r hq, k1, l1, hl', X3_has_n hr hs h3' hv1, f_X11_found, f_X11_found_0, gI_0, gI_2, gI_4, gI_9, gI_15, gI_21, gI_49, gP_0, gP_2, gP_4, gP_9, gP_15, gP_21, gP_49, gR_0, gR_2, gR_4, gR_9, gR_15, gR_21, gR_49, gL_53, gL_54, oPz_0, oPz_1, Option.bind_some, c10, c01, cm1, c00, if_true, if_false, ne_eq, not_true_eq_false, not_false_eq_true]
        rfl
    · have e1 : up2 (up2 (up2 F 0 8 2) 49 0 0) 49 1 0 50 r = F 50 r := by simp (disch := omega) only [up2_ne, up2_o, up2_s]
      have e2 : up2 (up2 (up2 F 0 8 2) 49 0 0) 49 1 0 50 q = F 50 q := by simp (disch := omega) only [up2_ne, up2_o, up2_s]
      have e3 : up2 (up2 (up2 F 0 8 2) 49 0 0) 49 1 0 51 r = nI s := by simp (disch := omega) only [up2_ne, up2_o, up2_s]; exact h3
      have e4 : up2 (up2 (up2 F 0 8 2) 49 0 0) 49 1 0 51 q = nI t := by simp (disch := omega) only [up2_ne, up2_o, up2_s]; exact g3
      by_cases p1 : b < 0
      · simp only [f_X12_copy, f_X12_copy_0, f_X12_copy_121, X12_isRow_y hr, X12_isRow_y hq, (gN_50 hr).1, (gN_50 hq).1, e1, e2, n1', n2, hl, p1, f_X12_finding, f_X12_finding_0, gI_0, gI_2, gI_4, gI_9, gI_15, gI_21, gI_49, gP_0, gP_2, gP_4, gP_9, gP_15, gP_21, gP_49, gR_0, gR_2, gR_4, gR_9, gR_15, gR_21, gR_49, gL_53, gL_54, oPz_0, oPz_1, Option.bind_some, c10, c01, cm1, c00, if_true, if_false, ne_eq, not_true_eq_false, not_false_eq_true]
        rfl
      by_cases p2 : d < 0
      · simp only [f_X12_copy, f_X12_copy_0, f_X12_copy_121, X12_isRow_y hr, X12_isRow_y hq, (gN_50 hr).1, (gN_50 hq).1, e1, e2, n1', n2, hl, p1, p2, f_X12_finding, f_X12_finding_0, gI_0, gI_2, gI_4, gI_9, gI_15, gI_21, gI_49, gP_0, gP_2, gP_4, gP_9, gP_15, gP_21, gP_49, gR_0, gR_2, gR_4, gR_9, gR_15, gR_21, gR_49, gL_53, gL_54, oPz_0, oPz_1, Option.bind_some, c10, c01, cm1, c00, if_true, if_false, ne_eq, not_true_eq_false, not_false_eq_true]
        rfl
      by_cases p3 : e < 0
      · simp only [f_X12_copy, f_X12_copy_0, f_X12_copy_121, X12_isRow_y hr, X12_isRow_y hq, (gN_50 hr).1, (gN_50 hq).1, e1, e2, n1', n2, hl, p1, p2, p3, f_X12_finding, f_X12_finding_0, gI_0, gI_2, gI_4, gI_9, gI_15, gI_21, gI_49, gP_0, gP_2, gP_4, gP_9, gP_15, gP_21, gP_49, gR_0, gR_2, gR_4, gR_9, gR_15, gR_21, gR_49, gL_53, gL_54, oPz_0, oPz_1, Option.bind_some, c10, c01, cm1, c00, if_true, if_false, ne_eq, not_true_eq_false, not_false_eq_true]
        rfl
      by_cases p4 : (0 : Int32) < lg_cmp (b.toInt64 + e.toInt64) (nI s).toInt64
      · simp only [f_X12_copy, f_X12_copy_0, f_X12_copy_121, X12_isRow_y hr, X12_isRow_y hq, (gN_50 hr).1, (gN_50 hq).1, (gN_51 hr).1, e1, e2, e3, n1', n2, hl, p1, p2, p3, p4, f_X12_finding, f_X12_finding_0, gI_0, gI_2, gI_4, gI_9, gI_15, gI_21, gI_49, gP_0, gP_2, gP_4, gP_9, gP_15, gP_21, gP_49, gR_0, gR_2, gR_4, gR_9, gR_15, gR_21, gR_49, gL_53, gL_54, oPz_0, oPz_1, Option.bind_some, c10, c01, cm1, c00, if_true, if_false, ne_eq, not_true_eq_false, not_false_eq_true]
        rfl
      have p5 : ¬ lg_cmp (d.toInt64 + e.toInt64) (nI t).toInt64 ≤ 0 := by
        intro x
        have x2 : ¬ (0 : Int32) < lg_cmp (d.toInt64 + e.toInt64) (nI t).toInt64 := Int32.not_lt.mpr x
        rw [lg_gt, i64_sum _ _ _ ht] at x2
        rw [lg_gt, i64_sum _ _ _ hs] at p4
        rw [lt0] at p1 p2 p3
        exact hv ⟨⟨by omega, by omega, by omega⟩, ⟨by omega, by omega, by omega⟩⟩
      simp only [f_X12_copy, f_X12_copy_0, f_X12_copy_121, X12_isRow_y hr, X12_isRow_y hq, (gN_50 hr).1, (gN_50 hq).1, (gN_51 hr).1, (gN_51 hq).1, e1, e2, e3, e4, n1', n2, hl, p1, p2, p3, p4, p5, f_X12_finding, f_X12_finding_0, gI_0, gI_2, gI_4, gI_9, gI_15, gI_21, gI_49, gP_0, gP_2, gP_4, gP_9, gP_15, gP_21, gP_49, gR_0, gR_2, gR_4, gR_9, gR_15, gR_21, gR_49, gL_53, gL_54, oPz_0, oPz_1, Option.bind_some, c10, c01, cm1, c00, if_true, if_false, ne_eq, not_true_eq_false, not_false_eq_true]
      rfl
  obtain ⟨hv1, hv2⟩ := hv
  obtain ⟨i, hi', rfl⟩ := nI_of (x := b) (by rw [lt0]; have := hv1.1; omega)
  obtain ⟨n, hn', rfl⟩ := nI_of (x := e) (by rw [lt0]; have := hv1.2.1; omega)
  obtain ⟨j, hj', rfl⟩ := nI_of (x := d) (by rw [lt0]; have := hv2.1; omega)
  have hv3 : i + n ≤ s := by have := hv1.2.2; rw [nI_toInt hi', nI_toInt hn'] at this; omega
  have hv4 : j + n ≤ t := by have := hv2.2.2; rw [nI_toInt hj', nI_toInt hn'] at this; omega
  generalize hG : up F (24 + 2 * q) (va_cpy (F (24 + 2 * r)) (F (24 + 2 * q)) i j n) = G
  have gp : ∀ p, p ≠ 24 + 2 * q → G p = F p := fun p hp => by rw [← hG, up_n2 hp]
  have gq : G (24 + 2 * q) = va_cpy (F (24 + 2 * r)) (F (24 + 2 * q)) i j n := by rw [← hG, up_s]
  refine ⟨nI n, m, up2 G 0 8 0, L, T, up (up2 (up2 (up2 G 0 8 0) 49 0 0) 49 1 0) 52 (va_cpy (F 52) (F 52) (40 * r + i) (40 * q + j) n), ?_, ?_, ?_, by omega⟩
  · simp only [f_X11_copy, f_X11_copy_0, f_X11_copy_97, X11_isRow_y hr, X11_isRow_y hq, gN_1 hr, gN_1 hq, gI_r0 hr, gI_r0 hq, gI_r1 hr, gI_r1 hq, gR_r hr, gR_r hq, k1, l1, hl', X3_has_y hr hs h3' hv3, X3_has_y hq ht g3' hv4, oK_r hr hq (show i + n ≤ 40 by omega) (show j + n ≤ 40 by omega), hG, f_X11_passed, f_X11_passed_0, gI_0, gI_2, gI_4, gI_9, gI_15, gI_21, gI_49, gP_0, gP_2, gP_4, gP_9, gP_15, gP_21, gP_49, gR_0, gR_2, gR_4, gR_9, gR_15, gR_21, gR_49, gL_53, gL_54, oPz_0, oPz_1, Option.bind_some, c10, c01, cm1, c00, if_true, if_false, ne_eq, not_true_eq_false, not_false_eq_true]
  · have e1 : up2 (up2 (up2 G 0 8 0) 49 0 0) 49 1 0 50 r = F 50 r := by simp (disch := omega) only [up2_ne, up2_o, up2_s]; rw [gp 50 (by omega)]
    have e2 : up2 (up2 (up2 G 0 8 0) 49 0 0) 49 1 0 50 q = F 50 q := by simp (disch := omega) only [up2_ne, up2_o, up2_s]; rw [gp 50 (by omega)]
    have e3 : up2 (up2 (up2 G 0 8 0) 49 0 0) 49 1 0 51 r = nI s := by simp (disch := omega) only [up2_ne, up2_o, up2_s]; rw [gp 51 (by omega)]; exact h3
    have e4 : up2 (up2 (up2 G 0 8 0) 49 0 0) 49 1 0 51 q = nI t := by simp (disch := omega) only [up2_ne, up2_o, up2_s]; rw [gp 51 (by omega)]; exact g3
    have e5 : up2 (up2 (up2 G 0 8 0) 49 0 0) 49 1 0 52 = F 52 := by simp (disch := omega) only [up2_ne, up2_o, up2_s]; rw [gp 52 (by omega)]
    have p1 : ¬ nI i < 0 := nI_pos hi'
    have p2 : ¬ nI j < 0 := nI_pos hj'
    have p3 : ¬ nI n < 0 := nI_pos hn'
    have p4 : ¬ (0 : Int32) < lg_cmp ((nI i).toInt64 + (nI n).toInt64) (nI s).toInt64 := by
      rw [lg_gt, i64_sum _ _ _ hs, nI_toInt hi', nI_toInt hn']; omega
    have p5 : lg_cmp ((nI j).toInt64 + (nI n).toInt64) (nI t).toInt64 ≤ 0 := by
      apply Int32.not_lt.mp
      rw [lg_gt, i64_sum _ _ _ ht, nI_toInt hj', nI_toInt hn']; omega
    simp only [f_X12_copy, f_X12_copy_0, f_X12_copy_138, X12_isRow_y hr, X12_isRow_y hq, (gN_50 hr).1, (gN_50 hq).1, (gN_51 hr).1, (gN_51 hq).1, e1, e2, e3, e4, n1', n2, hl, p1, p2, p3, p4, p5, gI_0, gI_2, gI_4, gI_9, gI_15, gI_21, gI_49, gP_0, gP_2, gP_4, gP_9, gP_15, gP_21, gP_49, gR_0, gR_2, gR_4, gR_9, gR_15, gR_21, gR_49, gL_53, gL_54, oPz_0, oPz_1, Option.bind_some, c10, c01, cm1, c00, if_true, if_false, ne_eq, not_true_eq_false, not_false_eq_true]
    have e6 : ∀ s d : Nat, Hp m (up2 (up2 (up2 G 0 8 0) 49 0 0) 49 1 0) L T = Hp m (up (up2 (up2 (up2 G 0 8 0) 49 0 0) 49 1 0) 52 (va_cpy (F 52) (F 52) s d 0)) L T := by
      intro s d
      rw [cpy_0, ← e5, up_id]
    by_cases hij : nI i < nI j
    · have hij' : i < j := (nI_ltI hi' hj').mp hij
      simp only [hij, if_true]
      have key := X12_cpD (N := N) (m := m) (L := L) (T := T) (i := i) (j := j) (c := n) hr hq (by omega) (by omega) (by omega) (up2 (up2 (up2 G 0 8 0) 49 0 0) 49 1 0) (F 52) N 0 (by omega) (by omega)
      rw [← e6] at key
      exact key
    · have hij' : j ≤ i := Nat.le_of_not_lt fun h => hij ((nI_ltI hi' hj').mpr h)
      simp only [hij, if_false]
      have key := X12_cpU (N := N) (m := m) (L := L) (T := T) (i := i) (j := j) (c := n) hr hq (by omega) (by omega) (by omega) (up2 (up2 (up2 G 0 8 0) 49 0 0) 49 1 0) (F 52) N 0 (by omega) (by omega)
      rw [← e6] at key
      exact key
  · generalize hH : up2 (up2 (up2 G 0 8 0) 49 0 0) 49 1 0 = H
    have hp : ∀ p, p ≠ 0 → p ≠ 49 → H p = G p := fun p a b => by rw [← hH]; simp (disch := omega) only [up2_ne, up2_o, up2_s]
    have h07 : H 0 7 = F 0 7 := by rw [← hH]; simp (disch := omega) only [up2_ne, up2_o, up2_s]; rw [gp 0 (by omega)]
    have h08 : H 0 8 = 0 := by rw [← hH]; simp (disch := omega) only [up2_ne, up2_o, up2_s]
    have h419 : H 49 9 = F 49 9 := by rw [← hH]; simp (disch := omega) only [up2_ne, up2_o, up2_s]; rw [gp 49 (by omega)]
    have h411 : H 49 1 = 0 := by rw [← hH]; simp (disch := omega) only [up2_ne, up2_o, up2_s]
    have h418 : H 49 8 = F 49 8 := by rw [← hH]; simp (disch := omega) only [up2_ne, up2_o, up2_s]; rw [gp 49 (by omega)]
    have h4130 : H 49 30 = F 49 30 := by rw [← hH]; simp (disch := omega) only [up2_ne, up2_o, up2_s]; rw [gp 49 (by omega)]
    clear hH
    refine R.rows (R.1.one hq (fun z hz hzq => ?_) ?_) (fun p h0 h41 hp1 hp2 => ?_) ?_ ?_ ?_ ?_
    · refine ⟨?_, ?_, ?_, ?_, fun x hx => ?_⟩
      · rw [up_n2 (by omega), hp _ (by omega) (by omega), gp _ (by omega)]
      · rw [up_n2 (by omega), hp _ (by omega) (by omega), gp _ (by omega)]
      · rw [up_n2 (by omega), hp _ (by omega) (by omega), gp _ (by omega)]
      · rw [up_n2 (by omega), hp _ (by omega) (by omega), gp _ (by omega)]
      · rw [up_s]; unfold va_cpy; rw [if_neg (by omega)]
    · rw [up_n2 (show 23 + 2 * q ≠ 52 by omega), up_n2 (show 24 + 2 * q ≠ 52 by omega), up_n2 (show 50 ≠ 52 by omega), up_n2 (show 51 ≠ 52 by omega), up_s, hp _ (by omega) (by omega), hp (24 + 2 * q) (by omega) (by omega), hp 50 (by omega) (by omega), hp 51 (by omega) (by omega), gp (23 + 2 * q) (by omega), gp 50 (by omega), gp 51 (by omega), gq]
      refine ⟨Or.inr ⟨l1, l2, l3⟩, g2, ⟨t, ht, g3⟩, fun x hx => ?_⟩
      unfold va_cpy
      by_cases hx2 : j ≤ x ∧ x < j + n
      · rw [if_pos (by omega), if_pos hx2, ← h4 (i + (x - j)) (by omega)]
        congr 1; omega
      · rw [if_neg (by omega), if_neg hx2]; exact g4 x hx
    · rw [up_n2 (by omega), hp p h0 h41, gp p (by omega)]
    · rw [up_n2 (by omega), up_n2 (by omega), h07, h419]; exact R.2.2.2.2.1
    · rw [up_n2 (by omega), up_n2 (by omega), h08, h411]
    · rw [up_n2 (by omega), h418]
    · rw [up_n2 (by omega), h4130]
