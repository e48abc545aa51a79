/-- the trace, of the class and of the reference -/
def tC (F : Nat → Nat → Int32) (xs : List Int32) : Nat → Nat → Int32 := up (up F 22 (fun i => if i < xs.length then xs.getD i 0 else F 22 i)) 21 (upd (F 21) 0 (nI xs.length))
def tM (F : Nat → Nat → Int32) (xs : List Int32) : Nat → Nat → Int32 := up (up F 61 (fun i => if i < xs.length then xs.getD i 0 else F 61 i)) 49 (upd (F 49) 30 (nI xs.length))
theorem tC_p {F : Nat → Nat → Int32} {xs : List Int32} {p : Nat} (h1 : p ≠ 21) (h2 : p ≠ 22) : tC F xs p = F p := by
  unfold tC
  rw [up_n2 h1, up_n2 h2]
theorem tM_p {F : Nat → Nat → Int32} {xs : List Int32} {p : Nat} (h1 : p ≠ 49) (h2 : p ≠ 61) : tM F xs p = F p := by
  unfold tM
  rw [up_n2 h1, up_n2 h2]
theorem tC_0 {F : Nat → Nat → Int32} {xs : List Int32} : tC F xs 21 0 = nI xs.length := by
  unfold tC
  rw [up_s]
  simp [upd]
theorem tM_0 {F : Nat → Nat → Int32} {xs : List Int32} : tM F xs 49 30 = nI xs.length := by
  unfold tM
  rw [up_s]
  simp [upd]
theorem tM_k {F : Nat → Nat → Int32} {xs : List Int32} {k : Nat} (h : k ≠ 30) : tM F xs 49 k = F 49 k := by
  unfold tM
  rw [up_s]
  simp [upd, h]
theorem tC_1 {F : Nat → Nat → Int32} {xs : List Int32} : tC F xs 21 1 = F 21 1 := by
  unfold tC
  rw [up_s]
  simp [upd]
theorem tr_add (f : Nat → Int32) (xs : List Int32) (v : Int32) : upd (fun i => if i < xs.length then xs.getD i 0 else f i) xs.length v = fun i => if i < (xs ++ [v]).length then (xs ++ [v]).getD i 0 else f i := by
  funext i
  unfold upd
  rw [List.length_append, List.length_singleton]
  by_cases h : i = xs.length
  · subst h
    rw [if_pos rfl, if_pos (by omega), List.getD_eq_getElem?_getD, List.getElem?_append_right (Nat.le_refl _), Nat.sub_self]
    rfl
  · rw [if_neg h]
    show (if i < xs.length then xs.getD i 0 else f i) = _
    by_cases h2 : i < xs.length
    · rw [if_pos h2, if_pos (by omega), List.getD_eq_getElem?_getD, List.getD_eq_getElem?_getD, List.getElem?_append_left h2]
    · rw [if_neg h2, if_neg (by omega)]
theorem C_ent {N m : Nat} {F : Nat → Nat → Int32} {L : Nat → Nat → Option Nat} {T : Nat → Nat} {xs : List Int32} {v : Int32} (h : xs.length < 16) : f_X0_enter N (Hp m (tC F xs) L T) (some 21) v = some ((), Hp m (tC F (xs ++ [v])) L T) := by
  have e1 : ¬ (16 : Int32) ≤ nI xs.length := nI_ge (a := xs.length) (b := 16) h (by omega)
  have e2 : up2 (tC F xs) 22 xs.length v 21 0 = nI xs.length := by rw [up2_ne (by decide)]; exact tC_0
  have e3 : up2 (up2 (tC F xs) 22 xs.length v) 21 0 (nI (xs.length + 1)) = tC F (xs ++ [v]) := by
    unfold up2
    rw [up_n2 (show 21 ≠ 22 by decide)]
    unfold tC
    rw [up_s, up_n2 (show 22 ≠ 21 by decide), up_s, tr_add, fa_upd_twice, List.length_append, List.length_singleton]
    funext p
    unfold up
    by_cases h1 : p = 21
    · simp [h1]
    · by_cases h2 : p = 22
      · simp [h2]
      · simp [h1, h2]
  simp only [f_X0_enter, f_X0_enter_0, f_X0_enter_29, tC_0, e1, (gN_22 h).2, e2, nI_1, e3, gI_0, gI_2, gI_4, gI_9, gI_15, gI_21, gI_49, gP_0, gP_2, gP_4, gP_9, gP_15, gP_21, gP_49, gR_0, gR_2, gR_4, gR_9, gR_15, gR_21, gR_49, gL_53, gL_54, oPz_0, oPz_1, Option.bind_some, c10, c01, cm1, c00, if_true, if_false, ne_eq, not_true_eq_false, not_false_eq_true]
theorem M_ent {N m : Nat} {F : Nat → Nat → Int32} {L : Nat → Nat → Option Nat} {T : Nat → Nat} {xs : List Int32} {v : Int32} (h : xs.length < 16) : f_X12_began N (Hp m (tM F xs) L T) (some 49) v = some ((), Hp m (tM F (xs ++ [v])) L T) := by
  have e1 : ¬ (16 : Int32) ≤ nI xs.length := nI_ge (a := xs.length) (b := 16) h (by omega)
  have e2 : up2 (tM F xs) 61 xs.length v 49 30 = nI xs.length := by rw [up2_ne (by decide)]; exact tM_0
  have e3 : up2 (up2 (tM F xs) 61 xs.length v) 49 30 (nI (xs.length + 1)) = tM F (xs ++ [v]) := by
    unfold up2
    rw [up_n2 (show 49 ≠ 61 by decide)]
    unfold tM
    rw [up_s, up_n2 (show 61 ≠ 49 by decide), up_s, tr_add, fa_upd_twice, List.length_append, List.length_singleton]
    funext p
    unfold up
    by_cases h1 : p = 49
    · simp [h1]
    · by_cases h2 : p = 61
      · simp [h2]
      · simp [h1, h2]
  simp only [f_X12_began, f_X12_began_0, f_X12_began_29, tM_0, e1, (gN_61 h).2, e2, nI_1, e3, gI_0, gI_2, gI_4, gI_9, gI_15, gI_21, gI_49, gP_0, gP_2, gP_4, gP_9, gP_15, gP_21, gP_49, gR_0, gR_2, gR_4, gR_9, gR_15, gR_21, gR_49, gL_53, gL_54, oPz_0, oPz_1, Option.bind_some, c10, c01, cm1, c00, if_true, if_false, ne_eq, not_true_eq_false, not_false_eq_true]
/-- the bodies of an ask, and its answer -/
def askL (k wh : Nat) : List Int32 := if wh = 0 then (if k = 1 then [11, 10, 21, 20] else if k = 2 then [11, 10, 22, 21, 20] else if k = 3 then [12, 11, 10, 24, 21, 20] else if k = 4 then [13, 10] else [14, 13, 10]) else (if k = 1 then [21, 20] else if k = 2 then [22, 21, 20] else if k = 3 then [24, 21, 20] else if k = 4 then [23, 20, 13, 10] else [23, 20, 14, 13, 10])
def askV (k wh : Nat) (i w d : Int32) : Int32 := if wh = 0 then (if k = 1 then w + (i + d) else if k = 2 then w + (i + d - 1000) else if k = 3 then -(w + 2 * (i + d)) else if k = 4 then w - 100 else 2 * (w - 100)) else (if k = 1 then i + d else if k = 2 then i + d - 1000 else if k = 3 then 2 * (i + d) else if k = 4 then i - (w - 100) else i - 2 * (w - 100))
theorem C_ask {N m t k : Nat} {F : Nat → Nat → Int32} {L : Nat → Nat → Option Nat} {T : Nat → Nat} (h1 : 62 ≤ t) (h2 : t < 62 + m) (h3 : T t = clsOf k) (k1 : 1 ≤ k) (k5 : k ≤ 5) : v_X7_sizeBy N (Hp m (tC F []) L T) (some t) (some 21) 0 = some (askV k 0 (F t 0) (F t 1) (F 21 1), Hp m (tC F (askL k 0)) L T) ∧ v_X7_markBy N (Hp m (tC F []) L T) (some t) (some 21) 0 = some (askV k 1 (F t 0) (F t 1) (F 21 1), Hp m (tC F (askL k 1)) L T) := by
  have th : isTh (T t) = true := by rw [h3]; exact isTh_cls _ k5
  have f0 : ∀ xs, tC F xs t = F t := fun xs => tC_p (by omega) (by omega)
  have g0 : ∀ xs, oT (Hp m (tC F xs) L T) (some t) 0 = some (F t 0) := fun xs => by rw [gT_0 h1 h2 th, f0]
  have g1 : ∀ xs, oT (Hp m (tC F xs) L T) (some t) 1 = some (F t 1) := fun xs => by rw [gT_1 h1 h2 th, f0]
  have gc : ∀ xs, oC (Hp m (tC F xs) L T) (some t) = some (clsOf k) := fun xs => by rw [gT_th h1 h2, h3]
  have gh : ∀ xs, oTh (Hp m (tC F xs) L T) (some t) = some () := fun xs => by simp only [oTh, gT_th h1 h2, Option.bind_some, th, if_true]
  have d1 : ((8 : Int32) ≤ 0) = False := eq_false (by decide)
  rcases (show k = 1 ∨ k = 2 ∨ k = 3 ∨ k = 4 ∨ k = 5 by omega) with rfl | rfl | rfl | rfl | rfl
  · have c : clsOf 1 = 4 := rfl
    simp (disch := decide) only [v_X7_sizeBy, v_X7_markBy, gc, c, show ((4 : Nat) = 1) = False from eq_false (by decide), f_X4_sizeBy, f_X4_sizeBy_0, f_X4_sizeBy_33, f_X7_sizeBy, f_X7_sizeBy_0, v_X4_markBy, f_X4_markBy, f_X4_markBy_0, f_X7_markBy, f_X7_markBy_0, C_ent, g0, g1, gh, d1, tC_1, List.nil_append, List.cons_append, gI_0, gI_2, gI_4, gI_9, gI_15, gI_21, gI_49, gP_0, gP_2, gP_4, gP_9, gP_15, gP_21, gP_49, gR_0, gR_2, gR_4, gR_9, gR_15, gR_21, gR_49, gL_53, gL_54, oPz_0, oPz_1, Option.bind_some, c10, c01, cm1, c00, if_true, if_false, ne_eq, not_true_eq_false, not_false_eq_true]
    exact ⟨rfl, rfl⟩
  · have c : clsOf 2 = 1 := rfl
    simp (disch := decide) only [v_X7_sizeBy, v_X7_markBy, gc, c, f_X4_sizeBy, f_X4_sizeBy_0, f_X4_sizeBy_33, f_X7_sizeBy, f_X7_sizeBy_0, v_X4_markBy, f_X1_markBy, f_X1_markBy_0, f_X4_markBy, f_X4_markBy_0, f_X7_markBy, f_X7_markBy_0, C_ent, g0, g1, gh, d1, tC_1, List.nil_append, List.cons_append, gI_0, gI_2, gI_4, gI_9, gI_15, gI_21, gI_49, gP_0, gP_2, gP_4, gP_9, gP_15, gP_21, gP_49, gR_0, gR_2, gR_4, gR_9, gR_15, gR_21, gR_49, gL_53, gL_54, oPz_0, oPz_1, Option.bind_some, c10, c01, cm1, c00, if_true, if_false, ne_eq, not_true_eq_false, not_false_eq_true]
    exact ⟨rfl, rfl⟩
  · have c : clsOf 3 = 8 := rfl
    simp (maxSteps := 2000000) (disch := decide) only [v_X7_sizeBy, v_X7_markBy, gc, c, show ((8 : Nat) = 1) = False from eq_false (by decide), show ((8 : Nat) = 4) = False from eq_false (by decide), show ((8 : Nat) = 5) = False from eq_false (by decide), show ((8 : Nat) = 7) = False from eq_false (by decide), f_X9_sizeBy, f_X9_sizeBy_0, f_X4_sizeBy, f_X4_sizeBy_0, f_X4_sizeBy_33, f_X7_sizeBy, f_X7_sizeBy_0, v_X4_markBy, f_X9_markBy, f_X9_markBy_0, f_X4_markBy, f_X4_markBy_0, f_X7_markBy, f_X7_markBy_0, C_ent, g0, g1, gh, d1, tC_1, List.nil_append, List.cons_append, gI_0, gI_2, gI_4, gI_9, gI_15, gI_21, gI_49, gP_0, gP_2, gP_4, gP_9, gP_15, gP_21, gP_49, gR_0, gR_2, gR_4, gR_9, gR_15, gR_21, gR_49, gL_53, gL_54, oPz_0, oPz_1, Option.bind_some, c10, c01, cm1, c00, if_true, if_false, ne_eq, not_true_eq_false, not_false_eq_true]
    exact ⟨rfl, rfl⟩
  · have c : clsOf 4 = 5 := rfl
    simp (disch := decide) only [v_X7_sizeBy, v_X7_markBy, gc, c, show ((5 : Nat) = 1) = False from eq_false (by decide), show ((5 : Nat) = 4) = False from eq_false (by decide), f_X5_sizeBy, f_X5_sizeBy_0, f_X7_sizeBy, f_X7_sizeBy_0, v_X5_sizeBy, f_X5_markBy, f_X5_markBy_0, f_X5_markBy_33, f_X7_markBy, f_X7_markBy_0, C_ent, g0, g1, gh, d1, tC_1, List.nil_append, List.cons_append, gI_0, gI_2, gI_4, gI_9, gI_15, gI_21, gI_49, gP_0, gP_2, gP_4, gP_9, gP_15, gP_21, gP_49, gR_0, gR_2, gR_4, gR_9, gR_15, gR_21, gR_49, gL_53, gL_54, oPz_0, oPz_1, Option.bind_some, c10, c01, cm1, c00, if_true, if_false, ne_eq, not_true_eq_false, not_false_eq_true]
    exact ⟨rfl, rfl⟩
  · have c : clsOf 5 = 7 := rfl
    simp (disch := decide) only [v_X7_sizeBy, v_X7_markBy, gc, c, show ((7 : Nat) = 1) = False from eq_false (by decide), show ((7 : Nat) = 4) = False from eq_false (by decide), show ((7 : Nat) = 5) = False from eq_false (by decide), f_X8_sizeBy, f_X8_sizeBy_0, f_X5_sizeBy, f_X5_sizeBy_0, f_X7_sizeBy, f_X7_sizeBy_0, v_X5_sizeBy, f_X5_markBy, f_X5_markBy_0, f_X5_markBy_33, f_X7_markBy, f_X7_markBy_0, C_ent, g0, g1, gh, d1, tC_1, List.nil_append, List.cons_append, gI_0, gI_2, gI_4, gI_9, gI_15, gI_21, gI_49, gP_0, gP_2, gP_4, gP_9, gP_15, gP_21, gP_49, gR_0, gR_2, gR_4, gR_9, gR_15, gR_21, gR_49, gL_53, gL_54, oPz_0, oPz_1, Option.bind_some, c10, c01, cm1, c00, if_true, if_false, ne_eq, not_true_eq_false, not_false_eq_true]
    exact ⟨rfl, rfl⟩
section MA
variable {N m i k : Nat} {w d : Int32} {F : Nat → Nat → Int32} {L : Nat → Nat → Option Nat} {T : Nat → Nat} {xs : List Int32}
theorem tM_45 : tM F xs 53 = F 53 := tM_p (by omega) (by omega)
theorem M_kindT (hi : i < 4) (h5 : F 53 (5 + 2 * i) = nI k) : f_X12_kindOf N (Hp m (tM F xs) L T) (some 49) (nI i) = some (nI k, Hp m (tM F xs) L T) := by
  simp only [f_X12_kindOf, f_X12_kindOf_0, ix5, (gN_53 (show 5 + 2 * i < 39 by omega)).1, tM_45, h5, gI_0, gI_2, gI_4, gI_9, gI_15, gI_21, gI_49, gP_0, gP_2, gP_4, gP_9, gP_15, gP_21, gP_49, gR_0, gR_2, gR_4, gR_9, gR_15, gR_21, gR_49, gL_53, gL_54, oPz_0, oPz_1, Option.bind_some, c10, c01, cm1, c00, if_true, if_false, ne_eq, not_true_eq_false, not_false_eq_true]
theorem M_plain (hi : i < 4) (h6 : F 53 (6 + 2 * i) = w) (hx : xs.length < 16) : f_X12_plainSize N (Hp m (tM F xs) L T) (some 49) (nI i) = some (w, Hp m (tM F (xs ++ [10])) L T) := by
  simp only [f_X12_plainSize, f_X12_plainSize_0, M_ent hx, ix6, (gN_53 (show 6 + 2 * i < 39 by omega)).1, tM_45, h6, gI_0, gI_2, gI_4, gI_9, gI_15, gI_21, gI_49, gP_0, gP_2, gP_4, gP_9, gP_15, gP_21, gP_49, gR_0, gR_2, gR_4, gR_9, gR_15, gR_21, gR_49, gL_53, gL_54, oPz_0, oPz_1, Option.bind_some, c10, c01, cm1, c00, if_true, if_false, ne_eq, not_true_eq_false, not_false_eq_true]
theorem lap {xs : List Int32} {v : Int32} {c : Nat} (h : xs.length < c) : (xs ++ [v]).length < c + 1 := by
  rw [List.length_append, List.length_singleton]
  omega
theorem M_stone4 (hi : i < 4) (h5 : F 53 (5 + 2 * i) = nI 4) (h6 : F 53 (6 + 2 * i) = w) (hx : xs.length < 12) : f_X12_stoneSize N (Hp m (tM F xs) L T) (some 49) (nI i) = some (w - 100, Hp m (tM F (xs ++ [13] ++ [10])) L T) := by
  have e : ¬ nI 4 = 5 := by decide
  have l1 := lap (v := 13) hx
  simp only [f_X12_stoneSize, f_X12_stoneSize_0, M_kindT hi h5, e, f_X12_stoneSize_15, M_ent (show xs.length < 16 by omega), M_plain hi h6 (show (xs ++ [(13 : Int32)]).length < 16 by omega), f_X12_stoneSize_46, gI_0, gI_2, gI_4, gI_9, gI_15, gI_21, gI_49, gP_0, gP_2, gP_4, gP_9, gP_15, gP_21, gP_49, gR_0, gR_2, gR_4, gR_9, gR_15, gR_21, gR_49, gL_53, gL_54, oPz_0, oPz_1, Option.bind_some, c10, c01, cm1, c00, if_true, if_false, ne_eq, not_true_eq_false, not_false_eq_true]
theorem M_stone5 (hi : i < 4) (h5 : F 53 (5 + 2 * i) = nI 5) (h6 : F 53 (6 + 2 * i) = w) (hx : xs.length < 12) : f_X12_stoneSize N (Hp m (tM F xs) L T) (some 49) (nI i) = some (2 * (w - 100), Hp m (tM F (xs ++ [14] ++ [13] ++ [10])) L T) := by
  have e : nI 5 = 5 := by decide
  have l1 := lap (v := 14) hx
  have l2 := lap (v := 13) l1
  simp only [f_X12_stoneSize, f_X12_stoneSize_0, M_kindT hi h5, e, f_X12_stoneSize_15, M_ent (show xs.length < 16 by omega), M_ent (show (xs ++ [(14 : Int32)]).length < 16 by omega), M_plain hi h6 (show (xs ++ [(14 : Int32)] ++ [(13 : Int32)]).length < 16 by omega), f_X12_stoneSize_46, gI_0, gI_2, gI_4, gI_9, gI_15, gI_21, gI_49, gP_0, gP_2, gP_4, gP_9, gP_15, gP_21, gP_49, gR_0, gR_2, gR_4, gR_9, gR_15, gR_21, gR_49, gL_53, gL_54, oPz_0, oPz_1, Option.bind_some, c10, c01, cm1, c00, if_true, if_false, ne_eq, not_true_eq_false, not_false_eq_true]
theorem M_mark52 (h4 : F 53 4 = d) (hx : xs.length < 12) (x2 : Int32) : f_X12_markOf_52 N (Hp m (tM F xs) L T) (some 49) (nI i) x2 = some (if x2 = 1 then nI i + d else if x2 = 2 then nI i + d - 1000 else 2 * (nI i + d), Hp m (tM F (xs ++ [21] ++ [20])) L T) := by
  have l1 := lap (v := 21) hx
  simp only [f_X12_markOf_52, M_ent (show xs.length < 16 by omega), M_ent (show (xs ++ [(21 : Int32)]).length < 16 by omega), tM_45, h4, f_X12_markOf_98, gI_0, gI_2, gI_4, gI_9, gI_15, gI_21, gI_49, gP_0, gP_2, gP_4, gP_9, gP_15, gP_21, gP_49, gR_0, gR_2, gR_4, gR_9, gR_15, gR_21, gR_49, gL_53, gL_54, oPz_0, oPz_1, Option.bind_some, c10, c01, cm1, c00, if_true, if_false, ne_eq, not_true_eq_false, not_false_eq_true]
  split
  · rfl
  · split <;> rfl
theorem M_markK (hi : i < 4) (h5 : F 53 (5 + 2 * i) = nI k) (h6 : F 53 (6 + 2 * i) = w) (h4 : F 53 4 = d) (k1 : 1 ≤ k) (k5 : k ≤ 5) (hx : xs.length < 8) : f_X12_markOf N (Hp m (tM F xs) L T) (some 49) (nI i) = some (askV k 1 (nI i) w d, Hp m (tM F (xs ++ askL k 1)) L T) := by
  rcases (show k = 1 ∨ k = 2 ∨ k = 3 ∨ k = 4 ∨ k = 5 by omega) with rfl | rfl | rfl | rfl | rfl
  · have e1 : nI 1 < 4 := by decide
    have e2 : nI 1 = 1 := by decide
    simp only [f_X12_markOf, f_X12_markOf_0, M_kindT hi h5, e1, e2, M_mark52 h4 (show xs.length < 12 by omega), gI_0, gI_2, gI_4, gI_9, gI_15, gI_21, gI_49, gP_0, gP_2, gP_4, gP_9, gP_15, gP_21, gP_49, gR_0, gR_2, gR_4, gR_9, gR_15, gR_21, gR_49, gL_53, gL_54, oPz_0, oPz_1, Option.bind_some, c10, c01, cm1, c00, if_true, if_false, ne_eq, not_true_eq_false, not_false_eq_true]
    simp [askV, askL]
  · have e1 : nI 2 < 4 := by decide
    have e2 : ¬ nI 2 = 1 := by decide
    have e3 : nI 2 = 2 := by decide
    have l1 := lap (v := 22) hx
    simp only [f_X12_markOf, f_X12_markOf_0, f_X12_markOf_49, M_kindT hi h5, e1, e2, M_ent (show xs.length < 16 by omega), M_mark52 h4 (show (xs ++ [(22 : Int32)]).length < 12 by omega), gI_0, gI_2, gI_4, gI_9, gI_15, gI_21, gI_49, gP_0, gP_2, gP_4, gP_9, gP_15, gP_21, gP_49, gR_0, gR_2, gR_4, gR_9, gR_15, gR_21, gR_49, gL_53, gL_54, oPz_0, oPz_1, Option.bind_some, c10, c01, cm1, c00, if_true, if_false, ne_eq, not_true_eq_false, not_false_eq_true]
    simp [askV, askL, e3]
  · have e1 : nI 3 < 4 := by decide
    have e2 : ¬ nI 3 = 1 := by decide
    have e3 : ¬ nI 3 = 2 := by decide
    have l1 := lap (v := 24) hx
    simp only [f_X12_markOf, f_X12_markOf_0, f_X12_markOf_49, M_kindT hi h5, e1, e2, e3, M_ent (show xs.length < 16 by omega), M_mark52 h4 (show (xs ++ [(24 : Int32)]).length < 12 by omega), gI_0, gI_2, gI_4, gI_9, gI_15, gI_21, gI_49, gP_0, gP_2, gP_4, gP_9, gP_15, gP_21, gP_49, gR_0, gR_2, gR_4, gR_9, gR_15, gR_21, gR_49, gL_53, gL_54, oPz_0, oPz_1, Option.bind_some, c10, c01, cm1, c00, if_true, if_false, ne_eq, not_true_eq_false, not_false_eq_true]
    simp [askV, askL]
  · have e1 : ¬ nI 4 < 4 := by decide
    have l1 := lap (v := 23) hx
    have l2 := lap (v := 20) l1
    simp only [f_X12_markOf, f_X12_markOf_0, M_kindT hi h5, e1, M_ent (show xs.length < 16 by omega), M_ent (show (xs ++ [(23 : Int32)]).length < 16 by omega), M_stone4 hi h5 h6 (show (xs ++ [(23 : Int32)] ++ [(20 : Int32)]).length < 12 by omega), gI_0, gI_2, gI_4, gI_9, gI_15, gI_21, gI_49, gP_0, gP_2, gP_4, gP_9, gP_15, gP_21, gP_49, gR_0, gR_2, gR_4, gR_9, gR_15, gR_21, gR_49, gL_53, gL_54, oPz_0, oPz_1, Option.bind_some, c10, c01, cm1, c00, if_true, if_false, ne_eq, not_true_eq_false, not_false_eq_true]
    simp [askV, askL]
  · have e1 : ¬ nI 5 < 4 := by decide
    have l1 := lap (v := 23) hx
    have l2 := lap (v := 20) l1
    simp only [f_X12_markOf, f_X12_markOf_0, M_kindT hi h5, e1, M_ent (show xs.length < 16 by omega), M_ent (show (xs ++ [(23 : Int32)]).length < 16 by omega), M_stone5 hi h5 h6 (show (xs ++ [(23 : Int32)] ++ [(20 : Int32)]).length < 12 by omega), gI_0, gI_2, gI_4, gI_9, gI_15, gI_21, gI_49, gP_0, gP_2, gP_4, gP_9, gP_15, gP_21, gP_49, gR_0, gR_2, gR_4, gR_9, gR_15, gR_21, gR_49, gL_53, gL_54, oPz_0, oPz_1, Option.bind_some, c10, c01, cm1, c00, if_true, if_false, ne_eq, not_true_eq_false, not_false_eq_true]
    simp [askV, askL]
theorem M_size28 (hi : i < 4) (h5 : F 53 (5 + 2 * i) = nI k) (h6 : F 53 (6 + 2 * i) = w) (h4 : F 53 4 = d) (k1 : 1 ≤ k) (k5 : k ≤ 5) (hx : xs.length < 2) (x2 : Int32) : f_X12_sizeOf_28 N (Hp m (tM F xs) L T) (some 49) (nI i) x2 = some (if x2 = 3 then -(w + askV k 1 (nI i) w d) else w + askV k 1 (nI i) w d, Hp m (tM F (xs ++ [11] ++ [10] ++ askL k 1)) L T) := by
  have l1 := lap (v := 11) hx
  have l2 := lap (v := 10) l1
  simp only [f_X12_sizeOf_28, f_X12_sizeOf_59, M_ent (show xs.length < 16 by omega), M_plain hi h6 (show (xs ++ [(11 : Int32)]).length < 16 by omega), M_markK hi h5 h6 h4 k1 k5 (show (xs ++ [(11 : Int32)] ++ [(10 : Int32)]).length < 8 by omega), gI_0, gI_2, gI_4, gI_9, gI_15, gI_21, gI_49, gP_0, gP_2, gP_4, gP_9, gP_15, gP_21, gP_49, gR_0, gR_2, gR_4, gR_9, gR_15, gR_21, gR_49, gL_53, gL_54, oPz_0, oPz_1, Option.bind_some, c10, c01, cm1, c00, if_true, if_false, ne_eq, not_true_eq_false, not_false_eq_true]
  split <;> rfl
theorem M_ask (hi : i < 4) (h5 : F 53 (5 + 2 * i) = nI k) (h6 : F 53 (6 + 2 * i) = w) (h4 : F 53 4 = d) (k1 : 1 ≤ k) (k5 : k ≤ 5) : f_X12_sizeOf N (Hp m (tM F []) L T) (some 49) (nI i) = some (askV k 0 (nI i) w d, Hp m (tM F (askL k 0)) L T) ∧ f_X12_markOf N (Hp m (tM F []) L T) (some 49) (nI i) = some (askV k 1 (nI i) w d, Hp m (tM F (askL k 1)) L T) := by
  refine ⟨?_, M_markK hi h5 h6 h4 k1 k5 (by decide)⟩
  rcases (show k = 1 ∨ k = 2 ∨ k = 3 ∨ k = 4 ∨ k = 5 by omega) with rfl | rfl | rfl | rfl | rfl
  · have e1 : nI 1 < 4 := by decide
    have e2 : ¬ nI 1 = 3 := by decide
    simp only [f_X12_sizeOf, f_X12_sizeOf_0, M_kindT hi h5, e1, e2, M_size28 hi h5 h6 h4 k1 k5 (show ([] : List Int32).length < 2 by decide), gI_0, gI_2, gI_4, gI_9, gI_15, gI_21, gI_49, gP_0, gP_2, gP_4, gP_9, gP_15, gP_21, gP_49, gR_0, gR_2, gR_4, gR_9, gR_15, gR_21, gR_49, gL_53, gL_54, oPz_0, oPz_1, Option.bind_some, c10, c01, cm1, c00, if_true, if_false, ne_eq, not_true_eq_false, not_false_eq_true]
    simp [askV, askL]
  · have e1 : nI 2 < 4 := by decide
    have e2 : ¬ nI 2 = 3 := by decide
    simp only [f_X12_sizeOf, f_X12_sizeOf_0, M_kindT hi h5, e1, e2, M_size28 hi h5 h6 h4 k1 k5 (show ([] : List Int32).length < 2 by decide), gI_0, gI_2, gI_4, gI_9, gI_15, gI_21, gI_49, gP_0, gP_2, gP_4, gP_9, gP_15, gP_21, gP_49, gR_0, gR_2, gR_4, gR_9, gR_15, gR_21, gR_49, gL_53, gL_54, oPz_0, oPz_1, Option.bind_some, c10, c01, cm1, c00, if_true, if_false, ne_eq, not_true_eq_false, not_false_eq_true]
    simp [askV, askL]
  · have e1 : nI 3 < 4 := by decide
    have e2 : nI 3 = 3 := by decide
    simp only [f_X12_sizeOf, f_X12_sizeOf_0, M_kindT hi h5, e1, e2, M_ent (show ([] : List Int32).length < 16 by decide), M_size28 hi h5 h6 h4 k1 k5 (show ([] ++ [(12 : Int32)]).length < 2 by decide), gI_0, gI_2, gI_4, gI_9, gI_15, gI_21, gI_49, gP_0, gP_2, gP_4, gP_9, gP_15, gP_21, gP_49, gR_0, gR_2, gR_4, gR_9, gR_15, gR_21, gR_49, gL_53, gL_54, oPz_0, oPz_1, Option.bind_some, c10, c01, cm1, c00, if_true, if_false, ne_eq, not_true_eq_false, not_false_eq_true]
    simp [askV, askL]
  · have e1 : ¬ nI 4 < 4 := by decide
    simp only [f_X12_sizeOf, f_X12_sizeOf_0, M_kindT hi h5, e1, M_stone4 hi h5 h6 (show ([] : List Int32).length < 12 by decide), gI_0, gI_2, gI_4, gI_9, gI_15, gI_21, gI_49, gP_0, gP_2, gP_4, gP_9, gP_15, gP_21, gP_49, gR_0, gR_2, gR_4, gR_9, gR_15, gR_21, gR_49, gL_53, gL_54, oPz_0, oPz_1, Option.bind_some, c10, c01, cm1, c00, if_true, if_false, ne_eq, not_true_eq_false, not_false_eq_true]
    simp [askV, askL]
  · have e1 : ¬ nI 5 < 4 := by decide
    simp only [f_X12_sizeOf, f_X12_sizeOf_0, M_kindT hi h5, e1, M_stone5 hi h5 h6 (show ([] : List Int32).length < 12 by decide), gI_0, gI_2, gI_4, gI_9, gI_15, gI_21, gI_49, gP_0, gP_2, gP_4, gP_9, gP_15, gP_21, gP_49, gR_0, gR_2, gR_4, gR_9, gR_15, gR_21, gR_49, gL_53, gL_54, oPz_0, oPz_1, Option.bind_some, c10, c01, cm1, c00, if_true, if_false, ne_eq, not_true_eq_false, not_false_eq_true]
    simp [askV, askL]
end MA
theorem askL_le : ∀ k, k ≤ 5 → ∀ wh, wh ≤ 1 → (askL k wh).length ≤ 16 := by decide
theorem tC_nil {F : Nat → Nat → Int32} (h : F 21 0 = 0) : tC F [] = F := by
  funext p j
  unfold tC up
  by_cases h1 : p = 21
  · subst h1
    rw [if_pos rfl]
    unfold upd
    by_cases h2 : j = 0
    · rw [if_pos h2, h2, h]; rfl
    · rw [if_neg h2]
  · rw [if_neg h1]
    by_cases h2 : p = 22
    · subst h2; rw [if_pos rfl]; simp
    · rw [if_neg h2]
theorem tM_nil {F : Nat → Nat → Int32} (h : F 49 30 = 0) : tM F [] = F := by
  funext p j
  unfold tM up
  by_cases h1 : p = 49
  · subst h1
    rw [if_pos rfl]
    unfold upd
    by_cases h2 : j = 30
    · rw [if_pos h2, h2, h]; rfl
    · rw [if_neg h2]
  · rw [if_neg h1]
    by_cases h2 : p = 61
    · subst h2; rw [if_pos rfl]; simp
    · rw [if_neg h2]
theorem o_ask (N : Nat) (hN : 5000 ≤ N) (m : Nat) (F : Nat → Nat → Int32) (L : Nat → Nat → Option Nat) (T : Nat → Nat) (hm : m ≤ 3000) (R : Rel m F L T) (a b : Int32) : OpOk (fun A => f_X11_ask N A (some 0) a b) (fun A => f_X12_ask N A (some 49) a b) m F L T := by
  obtain ⟨P, pv, pm, pc, sr⟩ := R.2.2.1
  have v3 : P 3 ≤ 4 := pv.2.2.2.1
  have c4 : F 4 4 = nI (P 3) := pc.2.2.2.2.1
  have c5 : F 4 5 = nI (P 4) := pc.2.2.2.2.2.1
  have m3 : up2 F 49 0 0 53 3 = nI (P 3) := by simp (disch := omega) only [up2_ne, up2_o, up2_s]; exact pm.1 3 (by omega)
  have bad : (a < 0 ∨ nI (P 3) ≤ a) → OpOk (fun A => f_X11_ask N A (some 0) a b) (fun A => f_X12_ask N A (some 49) a b) m F L T := by
    intro h
    refine ⟨-1000001, m, F, L, T, up2 F 49 0 0, ?_, ?_, R.thr 0, by omega⟩
    · simp only [f_X11_ask, f_X11_ask_0, f_X11_ask_22, C_thing_n c4 h, gI_0, gI_2, gI_4, gI_9, gI_15, gI_21, gI_49, gP_0, gP_2, gP_4, gP_9, gP_15, gP_21, gP_49, gR_0, gR_2, gR_4, gR_9, gR_15, gR_21, gR_49, gL_53, gL_54, oPz_0, oPz_1, Option.bind_some, c10, c01, cm1, c00, if_true, if_false, ne_eq, not_true_eq_false, not_false_eq_true]
    · simp only [f_X12_ask, f_X12_ask_0, f_X12_ask_23, M_thing_n v3 m3 h, gI_0, gI_2, gI_4, gI_9, gI_15, gI_21, gI_49, gP_0, gP_2, gP_4, gP_9, gP_15, gP_21, gP_49, gR_0, gR_2, gR_4, gR_9, gR_15, gR_21, gR_49, gL_53, gL_54, oPz_0, oPz_1, Option.bind_some, c10, c01, cm1, c00, if_true, if_false, ne_eq, not_true_eq_false, not_false_eq_true]
  rcases pk_ix a (n := P 3) (by omega) with h | h | ⟨i, hi, rfl⟩
  · exact bad (Or.inl h)
  · exact bad (Or.inr h)
  clear bad
  obtain ⟨t, q1, q2, q3, q4, q5, q6⟩ := pc.2.2.2.2.2.2.2.1 i hi
  have q1' : L 7 i = some t := q1
  obtain ⟨k1, k2, k3⟩ := pv.2.2.2.2.2.2.2.1 i hi
  have bad : (b < 0 ∨ nI 2 ≤ b) → OpOk (fun A => f_X11_ask N A (some 0) (nI i) b) (fun A => f_X12_ask N A (some 49) (nI i) b) m F L T := by
    intro h
    refine ⟨-1000001, m, F, L, T, up2 F 49 0 0, ?_, ?_, R.thr 0, by omega⟩
    · by_cases h1 : b < 0
      · simp only [f_X11_ask, f_X11_ask_0, f_X11_ask_22, C_thing_y v3 c4 hi, q1', reduceCtorEq, h1, gI_0, gI_2, gI_4, gI_9, gI_15, gI_21, gI_49, gP_0, gP_2, gP_4, gP_9, gP_15, gP_21, gP_49, gR_0, gR_2, gR_4, gR_9, gR_15, gR_21, gR_49, gL_53, gL_54, oPz_0, oPz_1, Option.bind_some, c10, c01, cm1, c00, if_true, if_false, ne_eq, not_true_eq_false, not_false_eq_true]
      · have h2 : ¬ b ≤ 1 := by
          rcases h with h | h
          · exact absurd h h1
          · intro q
            have e1 := (fa_le _ _).mp h
            have e2 := (fa_le _ _).mp q
            have e3 : (nI 2).toInt = 2 := by decide
            have e4 : (1 : Int32).toInt = 1 := by decide
            omega
        simp only [f_X11_ask, f_X11_ask_0, f_X11_ask_22, C_thing_y v3 c4 hi, q1', reduceCtorEq, h1, h2, gI_0, gI_2, gI_4, gI_9, gI_15, gI_21, gI_49, gP_0, gP_2, gP_4, gP_9, gP_15, gP_21, gP_49, gR_0, gR_2, gR_4, gR_9, gR_15, gR_21, gR_49, gL_53, gL_54, oPz_0, oPz_1, Option.bind_some, c10, c01, cm1, c00, if_true, if_false, ne_eq, not_true_eq_false, not_false_eq_true]
    · simp only [f_X12_ask, f_X12_ask_0, f_X12_ask_23, M_thing_y v3 m3 hi, X12_in01n h, gI_0, gI_2, gI_4, gI_9, gI_15, gI_21, gI_49, gP_0, gP_2, gP_4, gP_9, gP_15, gP_21, gP_49, gR_0, gR_2, gR_4, gR_9, gR_15, gR_21, gR_49, gL_53, gL_54, oPz_0, oPz_1, Option.bind_some, c10, c01, cm1, c00, if_true, if_false, ne_eq, not_true_eq_false, not_false_eq_true]
  rcases pk_ix b (n := 2) (by decide) with h | h | ⟨j, hj, rfl⟩
  · exact bad (Or.inl h)
  · exact bad (Or.inr h)
  clear bad
  have b0 : ¬ nI j < 0 := nI_pos (by omega)
  have b1 : nI j ≤ 1 := nI_le (a := j) (b := 1) (by omega) (by omega)
  generalize hF1 : up2 (up2 F 21 0 0) 21 1 (nI (P 4)) = F1
  have f17 : F1 21 0 = 0 := by rw [← hF1]; simp (disch := omega) only [up2_ne, up2_o, up2_s]
  have f171 : F1 21 1 = nI (P 4) := by rw [← hF1]; simp (disch := omega) only [up2_ne, up2_o, up2_s]
  have fp : ∀ p, p ≠ 21 → F1 p = F p := fun p hp => by rw [← hF1]; simp (disch := omega) only [up2_ne, up2_o, up2_s]
  generalize hxs : askL (P (5 + 2 * i)) j = xs
  have hlen : xs.length ≤ 16 := by rw [← hxs]; exact askL_le _ k2 _ (by omega)
  generalize hM1 : up2 (up2 (tC F1 xs) 49 0 0) 49 30 0 = M1
  have mp : ∀ p, p ≠ 49 → p ≠ 21 → p ≠ 22 → M1 p = F p := fun p h1 h2 h3 => by rw [← hM1, up2_ne h1, up2_ne h1, tC_p h2 h3, fp p h2]
  have mk : ∀ k, k ≠ 0 → k ≠ 30 → M1 49 k = F 49 k := fun k h1 h2 => by rw [← hM1, up2_o h2, up2_o h1, tC_p (by decide) (by decide), fp 49 (by decide)]
  have m30 : M1 49 30 = 0 := by rw [← hM1, up2_s]
  have tp : ∀ p, p ≠ 49 → p ≠ 61 → p ≠ 21 → p ≠ 22 → tM M1 xs p = F p := fun p h1 h2 h3 h4 => by rw [tM_p h1 h2, mp p h1 h3 h4]
  have t17 : tM M1 xs 21 = tC F1 xs 21 := by rw [tM_p (by decide) (by decide), ← hM1, up2_ne (by decide), up2_ne (by decide)]
  have t18 : tM M1 xs 22 = tC F1 xs 22 := by rw [tM_p (by decide) (by decide), ← hM1, up2_ne (by decide), up2_ne (by decide)]
  have tk : ∀ k, k ≠ 0 → k ≠ 30 → tM M1 xs 49 k = F 49 k := fun k h1 h2 => by rw [tM_k h2, mk k h1 h2]
  obtain ⟨ca1, ca2⟩ := C_ask (N := N) (m := m) (F := F1) (L := L) (T := T) q2 q3 q4 k1 k2
  rw [tC_nil f17, f171, fp t (by omega), q5, q6] at ca1 ca2
  obtain ⟨ma1, ma2⟩ := M_ask (N := N) (m := m) (F := M1) (L := L) (T := T) (i := i) (w := nI (P (6 + 2 * i))) (d := nI (P 4)) (show i < 4 by omega) (by rw [mp 53 (by decide) (by decide) (by decide)]; exact (pm.2.1 i hi).1) (by rw [mp 53 (by decide) (by decide) (by decide)]; exact (pm.2.1 i hi).2) (by rw [mp 53 (by decide) (by decide) (by decide)]; exact pm.1 4 (by omega)) k1 k2
  rw [tM_nil m30] at ma1 ma2
  refine ⟨askV (P (5 + 2 * i)) j (nI i) (nI (P (6 + 2 * i))) (nI (P 4)), m, tC F1 xs, L, T, tM M1 xs, ?_, ?_, ?_, by omega⟩
  · rcases (show j = 0 ∨ j = 1 by omega) with rfl | rfl
    · rw [hxs] at ca1
      simp only [f_X11_ask, f_X11_ask_0, f_X11_ask_64, C_thing_y v3 c4 hi, q1', reduceCtorEq, b0, b1, c5, f_X0_begin, f_X0_begin_0, hF1, show (nI 0 = 0) = True from eq_true (by decide), ca1, gI_0, gI_2, gI_4, gI_9, gI_15, gI_21, gI_49, gP_0, gP_2, gP_4, gP_9, gP_15, gP_21, gP_49, gR_0, gR_2, gR_4, gR_9, gR_15, gR_21, gR_49, gL_53, gL_54, oPz_0, oPz_1, Option.bind_some, c10, c01, cm1, c00, if_true, if_false, ne_eq, not_true_eq_false, not_false_eq_true]
    · rw [hxs] at ca2
      simp only [f_X11_ask, f_X11_ask_0, f_X11_ask_64, C_thing_y v3 c4 hi, q1', reduceCtorEq, b0, b1, c5, f_X0_begin, f_X0_begin_0, hF1, show (nI 1 = 0) = False from eq_false (by decide), ca2, gI_0, gI_2, gI_4, gI_9, gI_15, gI_21, gI_49, gP_0, gP_2, gP_4, gP_9, gP_15, gP_21, gP_49, gR_0, gR_2, gR_4, gR_9, gR_15, gR_21, gR_49, gL_53, gL_54, oPz_0, oPz_1, Option.bind_some, c10, c01, cm1, c00, if_true, if_false, ne_eq, not_true_eq_false, not_false_eq_true]
  · have m3' : up2 (tC F1 xs) 49 0 0 53 3 = nI (P 3) := by rw [up2_ne (by decide), tC_p (by decide) (by decide), fp 53 (by decide)]; exact pm.1 3 (by omega)
    rcases (show j = 0 ∨ j = 1 by omega) with rfl | rfl
    · rw [hxs] at ma1
      simp only [f_X12_ask, f_X12_ask_0, f_X12_ask_48, M_thing_y v3 m3' hi, X12_in01y hj, hM1, show (nI 0 = 0) = True from eq_true (by decide), ma1, gI_0, gI_2, gI_4, gI_9, gI_15, gI_21, gI_49, gP_0, gP_2, gP_4, gP_9, gP_15, gP_21, gP_49, gR_0, gR_2, gR_4, gR_9, gR_15, gR_21, gR_49, gL_53, gL_54, oPz_0, oPz_1, Option.bind_some, c10, c01, cm1, c00, if_true, if_false, ne_eq, not_true_eq_false, not_false_eq_true]
    · rw [hxs] at ma2
      simp only [f_X12_ask, f_X12_ask_0, f_X12_ask_48, M_thing_y v3 m3' hi, X12_in01y hj, hM1, show (nI 1 = 0) = False from eq_false (by decide), ma2, gI_0, gI_2, gI_4, gI_9, gI_15, gI_21, gI_49, gP_0, gP_2, gP_4, gP_9, gP_15, gP_21, gP_49, gR_0, gR_2, gR_4, gR_9, gR_15, gR_21, gR_49, gL_53, gL_54, oPz_0, oPz_1, Option.bind_some, c10, c01, cm1, c00, if_true, if_false, ne_eq, not_true_eq_false, not_false_eq_true]
  · obtain ⟨r1, r2, r3, r4, r5, r6, r7⟩ := R
    refine ⟨r1.same (fun p h => tp p (by omega) (by omega) (by omega) (by omega)), r2.same (by rw [tp 2 (by omega) (by omega) (by omega) (by omega)]) (tk 8 (by omega) (by omega)) (tp 55 (by omega) (by omega) (by omega) (by omega)) (tp 3 (by omega) (by omega) (by omega) (by omega)), r3.same (tp 4 (by omega) (by omega) (by omega) (by omega)) (tp 8 (by omega) (by omega) (by omega) (by omega)) (tp 6 (by omega) (by omega) (by omega) (by omega)) (by rw [tp 15 (by omega) (by omega) (by omega) (by omega)]; exact ⟨rfl, rfl, rfl, rfl⟩) (tp 53 (by omega) (by omega) (by omega) (by omega)) (fun t ht => tp t (by omega) (by omega) (by omega) (by omega)), r4.same (fun p h => tp p (by omega) (by omega) (by omega) (by omega)), by rw [tp 0 (by omega) (by omega) (by omega) (by omega), tk 9 (by omega) (by omega)]; exact r5, by rw [tp 0 (by omega) (by omega) (by omega) (by omega), tk 1 (by omega) (by omega)]; exact r6, xs.length, hlen, ?_, tM_0, fun i hi => ?_⟩
    · rw [t17, tC_0]
    · rw [t18]
      unfold tC tM
      rw [up_n2 (by decide), up_s, up_n2 (by decide), up_s, if_pos hi, if_pos hi]
