/-! THE TYPED MEMORY. Hp m F L T: the heap behind the constructors, with m things: F label place = an int field or item, L label place = a reference in a row of things, T label = the class of a thing (labels from 62 on). x is at 0: rows' row 1, tape 2 (bytes 3), current 4 (sorts 5, weights 6, laid 7, sets 8), draft 9 (10, 11, 12, 13), images' row 14, worlds 15 (lower 16, upper 17, reaches 18, told 19, fitting 20), asking 21 (numbers 22), row r at 23 + 2 r (items 24 + 2 r), images 39 (40 to 43), 44 (45 to 48). The reference is at 49: lane 50, many 51, item 52, port 53, fresh 54, tape 55, weight 56, left 57, truly 58, isKept 59, kept 60, trace 61. -/
def up {α : Type} (F : Nat → α) (p : Nat) (v : α) : Nat → α := fun q => if q = p then v else F q
def up2 (F : Nat → Nat → Int32) (p k : Nat) (v : Int32) : Nat → Nat → Int32 := up F p (upd (F p) k v)
theorem up_s {α : Type} (F : Nat → α) (p : Nat) (v : α) : up F p v p = v := if_pos rfl
theorem up_n {α : Type} {F : Nat → α} {p q : Nat} {v : α} (h : q ≠ p) : up F p v q = F q := if_neg h
def rowsF : Nat → Option Nat := va_up (va_up (va_up (va_up (va_up (va_up (va_up (va_up (fun _ => none) 0 (some 23)) 1 (some 25)) 2 (some 27)) 3 (some 29)) 4 (some 31)) 5 (some 33)) 6 (some 35)) 7 (some 37)
def imgsF : Nat → Option Nat := va_up (va_up (fun _ => none) 0 (some 39)) 1 (some 44)
def aI (n : Nat) (f : Nat → Int32) : va_E := .inl (0, n, .inl f)
def aQ (t n : Nat) (f : Nat → Option Nat) : va_E := .inl (t, n, .inr (.inr (.inr (.inr f))))
def cG (k : Nat) (f : Nat → Int32) (g : Nat → Option Nat) (t : Nat) : va_E := match k with
  | 0 => .inr (10, [.ref 1, .ref 2, .ref 4, .ref 9, .ref 14, .ref 15, .ref 21, .int (f 7), .int (f 8)])
  | 1 => aQ 3 8 rowsF
  | 2 => .inr (6, [.ref 3, .int (f 1), .int (f 2), .int (f 3), .int (f 4), .int (f 5), .int (f 6), .int (f 7)])
  | 3 => .inl (1, 400, .inl f)
  | 4 => .inr (2, [.int (f 0), .int (f 1), .int (f 2), .int (f 3), .int (f 4), .int (f 5), .int (f 6), .ref 5, .ref 6, .ref 7, .ref 8])
  | 5 => aI 4 f
  | 6 => aI 4 f
  | 7 => aQ 5 4 g
  | 8 => aI 26 f
  | 9 => .inr (2, [.int (f 0), .int (f 1), .int (f 2), .int (f 3), .int (f 4), .int (f 5), .int (f 6), .ref 10, .ref 11, .ref 12, .ref 13])
  | 10 => aI 4 f
  | 11 => aI 4 f
  | 12 => aQ 5 4 g
  | 13 => aI 26 f
  | 14 => aQ 4 2 imgsF
  | 15 => .inr (9, [.int (f 0), .int (f 1), .int (f 2), .int (f 3), .int (f 4), .int (f 5), .int (f 6), .int (f 7), .ref 16, .ref 17, .ref 18, .ref 19, .ref 20])
  | 16 => aI 1664 f
  | 17 => aI 1664 f
  | 18 => aI 26 f
  | 19 => aI 24 f
  | 20 => aI 4096 f
  | 21 => .inr (0, [.int (f 0), .int (f 1), .ref 22])
  | 22 => aI 16 f
  | 23 => .inr (3, [.int (f 0), .int (f 1), .int (f 2), .ref 24])
  | 24 => aI 40 f
  | 25 => .inr (3, [.int (f 0), .int (f 1), .int (f 2), .ref 26])
  | 26 => aI 40 f
  | 27 => .inr (3, [.int (f 0), .int (f 1), .int (f 2), .ref 28])
  | 28 => aI 40 f
  | 29 => .inr (3, [.int (f 0), .int (f 1), .int (f 2), .ref 30])
  | 30 => aI 40 f
  | 31 => .inr (3, [.int (f 0), .int (f 1), .int (f 2), .ref 32])
  | 32 => aI 40 f
  | 33 => .inr (3, [.int (f 0), .int (f 1), .int (f 2), .ref 34])
  | 34 => aI 40 f
  | 35 => .inr (3, [.int (f 0), .int (f 1), .int (f 2), .ref 36])
  | 36 => aI 40 f
  | 37 => .inr (3, [.int (f 0), .int (f 1), .int (f 2), .ref 38])
  | 38 => aI 40 f
  | 39 => .inr (2, [.int (f 0), .int (f 1), .int (f 2), .int (f 3), .int (f 4), .int (f 5), .int (f 6), .ref 40, .ref 41, .ref 42, .ref 43])
  | 40 => aI 4 f
  | 41 => aI 4 f
  | 42 => aQ 5 4 g
  | 43 => aI 26 f
  | 44 => .inr (2, [.int (f 0), .int (f 1), .int (f 2), .int (f 3), .int (f 4), .int (f 5), .int (f 6), .ref 45, .ref 46, .ref 47, .ref 48])
  | 45 => aI 4 f
  | 46 => aI 4 f
  | 47 => aQ 5 4 g
  | 48 => aI 26 f
  | 49 => .inr (11, [.int (f 0), .int (f 1), .ref 50, .ref 51, .ref 52, .ref 53, .ref 54, .ref 55, .int (f 8), .int (f 9), .int (f 10), .int (f 11), .int (f 12), .int (f 13), .int (f 14), .int (f 15), .int (f 16), .ref 56, .int (f 18), .int (f 19), .int (f 20), .ref 57, .int (f 22), .ref 58, .int (f 24), .int (f 25), .int (f 26), .ref 59, .ref 60, .ref 61, .int (f 30)])
  | 50 => aI 8 f
  | 51 => aI 8 f
  | 52 => aI 320 f
  | 53 => aI 39 f
  | 54 => aI 39 f
  | 55 => aI 400 f
  | 56 => aI 4 f
  | 57 => aI 4096 f
  | 58 => aI 26 f
  | 59 => .inl (2, 2, .inl f)
  | 60 => aI 78 f
  | 61 => aI 16 f
  | _ + 62 => .inr (t, [.int (f 0), .int (f 1)])
def Hp (m : Nat) (F : Nat → Nat → Int32) (L : Nat → Nat → Option Nat) (T : Nat → Nat) : hP := (List.range (62 + m)).map (fun k => cG k (F k) (L k) (T k))
theorem Hp_len (m : Nat) (F : Nat → Nat → Int32) (L : Nat → Nat → Option Nat) (T : Nat → Nat) : (Hp m F L T).length = 62 + m := by simp [Hp]
section TM
variable {m : Nat} {F : Nat → Nat → Int32} {L : Nat → Nat → Option Nat} {T : Nat → Nat}
theorem Hp_get {k : Nat} (h : k < 62 + m) : (Hp m F L T)[k]? = some (cG k (F k) (L k) (T k)) := by
  unfold Hp
  rw [List.getElem?_map, List.getElem?_range h]
  rfl
theorem Hp_set {k : Nat} {f : Nat → Int32} {g : Nat → Option Nat} : (Hp m F L T).set k (cG k f g (T k)) = Hp m (up F k f) (up L k g) T := by
  apply List.ext_getElem?
  intro i
  unfold Hp
  rw [List.getElem?_set]
  by_cases h : k = i
  · subst h
    simp only [if_pos, List.length_map, List.length_range, List.getElem?_map]
    by_cases h2 : k < 62 + m
    · rw [if_pos h2, List.getElem?_range h2]
      simp [up]
    · rw [if_neg h2, List.getElem?_eq_none (by simpa using h2)]
      rfl
  · rw [if_neg h, List.getElem?_map, List.getElem?_map]
    by_cases h2 : i < 62 + m
    · rw [List.getElem?_range h2]
      simp [up, Ne.symm h]
    · rw [List.getElem?_eq_none (by simpa using h2)]
      rfl
theorem up_id {α : Type} (F : Nat → α) (p : Nat) : up F p (F p) = F := by
  funext q
  unfold up
  split
  · rename_i h; rw [h]
  · rfl
theorem Hp_setF {k : Nat} {f : Nat → Int32} {c : va_E} (h : c = cG k f (L k) (T k)) : (Hp m F L T).set k c = Hp m (up F k f) L T := by
  rw [h, Hp_set, up_id]
theorem Hp_setL {k : Nat} {g : Nat → Option Nat} {c : va_E} (h : c = cG k (F k) g (T k)) : (Hp m F L T).set k c = Hp m F (up L k g) T := by
  rw [h, Hp_set, up_id]
theorem oI_H {k ci j : Nat} {fs : List Value} {x : Int32} (h : k < 62 + m) (hc : cG k (F k) (L k) (T k) = .inr (ci, fs)) (hj : fs[j]? = some (.int x)) : oI (Hp m F L T) (some k) ci j = some x := by
  simp only [oI, Hp_get h, hc, if_pos, hj]
theorem oR_H {k ci j x : Nat} {fs : List Value} (h : k < 62 + m) (hc : cG k (F k) (L k) (T k) = .inr (ci, fs)) (hj : fs[j]? = some (.ref x)) : oR (Hp m F L T) (some k) ci j = some (some x) := by
  simp only [oR, Hp_get h, hc, if_pos, hj]
theorem oC_H {k ci : Nat} {fs : List Value} (h : k < 62 + m) (hc : cG k (F k) (L k) (T k) = .inr (ci, fs)) : oC (Hp m F L T) (some k) = some ci := by
  simp only [oC, Hp_get h, hc]
theorem oCk_H {k ci : Nat} {fs : List Value} (h : k < 62 + m) (hc : cG k (F k) (L k) (T k) = .inr (ci, fs)) : oCk (Hp m F L T) (some k) ci = some () := by
  simp only [oCk, oC_H h hc, if_pos]
theorem oP_H {k ci j : Nat} {fs : List Value} {x : Int32} (h : k < 62 + m) (hc : cG k (F k) (L k) (T k) = .inr (ci, fs)) (hj : j < fs.length) (hs : .inr (ci, fs.set j (.int x)) = cG k (upd (F k) j x) (L k) (T k)) : oP (Hp m F L T) (some k) ci j (.int x) = some (Hp m (up2 F k j x) L T) := by
  simp only [oP, Hp_get h, hc]
  rw [if_pos ⟨trivial, hj⟩, Hp_setF hs]
  rfl
theorem oA_H {k t n : Nat} {i : Int32} (h : k < 62 + m) (hc : cG k (F k) (L k) (T k) = .inl (t, n, .inl (F k))) : oA (Hp m F L T) (some k) t i = if i < 0 ∨ n ≤ i.toNatClampNeg then none else some (F k i.toNatClampNeg) := by
  simp only [oA, Hp_get h, hc]
  by_cases hi : i < 0 ∨ n ≤ i.toNatClampNeg
  · rw [if_neg (fun q => q.2 hi), if_pos hi]
  · rw [if_pos ⟨trivial, hi⟩, if_neg hi]
theorem oN_H {k t n : Nat} (h : k < 62 + m) (hc : cG k (F k) (L k) (T k) = .inl (t, n, .inl (F k))) : oN (Hp m F L T) (some k) t = some (Int32.ofNat n) := by
  simp only [oN, Hp_get h, hc, if_pos]
theorem oS_H {k t n : Nat} {i x : Int32} (h : k < 62 + m) (hc : ∀ f, cG k f (L k) (T k) = .inl (t, n, .inl f)) : oS (Hp m F L T) (some k) t i x = if i < 0 ∨ n ≤ i.toNatClampNeg then none else some (Hp m (up2 F k i.toNatClampNeg x) L T) := by
  simp only [oS, Hp_get h, hc]
  by_cases hi : i < 0 ∨ n ≤ i.toNatClampNeg
  · rw [if_neg (fun q => q.2 hi), if_pos hi]
  · rw [if_pos ⟨trivial, hi⟩, if_neg hi, Hp_setF (hc _).symm]
    rfl
theorem oQ_H {k t n : Nat} {i : Int32} {g : Nat → Option Nat} (h : k < 62 + m) (hc : cG k (F k) (L k) (T k) = aQ t n g) : oQ (Hp m F L T) (some k) t i = if i < 0 ∨ n ≤ i.toNatClampNeg then none else some (g i.toNatClampNeg) := by
  simp only [oQ, Hp_get h, hc, aQ]
  by_cases hi : i < 0 ∨ n ≤ i.toNatClampNeg
  · rw [if_neg (fun q => q.2 hi), if_pos hi]
  · rw [if_pos ⟨trivial, hi⟩, if_neg hi]
theorem oU_H {k t n : Nat} {i : Int32} {v : Option Nat} (h : k < 62 + m) (hc : ∀ g, cG k (F k) g (T k) = aQ t n g) : oU (Hp m F L T) (some k) t i v = if i < 0 ∨ n ≤ i.toNatClampNeg then none else some (Hp m F (up L k (va_up (L k) i.toNatClampNeg v)) T) := by
  simp only [oU, Hp_get h, hc, aQ]
  by_cases hi : i < 0 ∨ n ≤ i.toNatClampNeg
  · rw [if_neg (fun q => q.2 hi), if_pos hi]
  · rw [if_pos ⟨trivial, hi⟩, if_neg hi]
    exact congrArg some (Hp_setL (hc _).symm)
/-- places, as natural numbers -/
theorem in_nI {j n : Nat} (h : j < n) (hn : n < 2 ^ 31) : ¬ (nI j < 0 ∨ n ≤ (nI j).toNatClampNeg) := nI_in h hn
theorem cl_nI {j : Nat} (h : j < 2 ^ 31) : (nI j).toNatClampNeg = j := nI_clamp h
theorem gI_0 : oI (Hp m F L T) (some 0) 10 7 = some (F 0 7) ∧ oI (Hp m F L T) (some 0) 10 8 = some (F 0 8) := ⟨oI_H (by omega) rfl rfl, oI_H (by omega) rfl rfl⟩
theorem gP_0 {v : Int32} : oP (Hp m F L T) (some 0) 10 7 (.int v) = some (Hp m (up2 F 0 7 v) L T) ∧ oP (Hp m F L T) (some 0) 10 8 (.int v) = some (Hp m (up2 F 0 8 v) L T) := ⟨oP_H (by omega) rfl (Nat.le_of_ble_eq_true rfl) rfl, oP_H (by omega) rfl (Nat.le_of_ble_eq_true rfl) rfl⟩
theorem gR_0 : oR (Hp m F L T) (some 0) 10 0 = some (some 1) ∧ oR (Hp m F L T) (some 0) 10 1 = some (some 2) ∧ oR (Hp m F L T) (some 0) 10 2 = some (some 4) ∧ oR (Hp m F L T) (some 0) 10 3 = some (some 9) ∧ oR (Hp m F L T) (some 0) 10 4 = some (some 14) ∧ oR (Hp m F L T) (some 0) 10 5 = some (some 15) ∧ oR (Hp m F L T) (some 0) 10 6 = some (some 21) ∧ oC (Hp m F L T) (some 0) = some 10 ∧ oCk (Hp m F L T) (some 0) 10 = some () := ⟨oR_H (by omega) rfl rfl, oR_H (by omega) rfl rfl, oR_H (by omega) rfl rfl, oR_H (by omega) rfl rfl, oR_H (by omega) rfl rfl, oR_H (by omega) rfl rfl, oR_H (by omega) rfl rfl, oC_H (by omega) rfl, oCk_H (by omega) rfl⟩
theorem gI_2 : oI (Hp m F L T) (some 2) 6 1 = some (F 2 1) ∧ oI (Hp m F L T) (some 2) 6 2 = some (F 2 2) ∧ oI (Hp m F L T) (some 2) 6 3 = some (F 2 3) ∧ oI (Hp m F L T) (some 2) 6 4 = some (F 2 4) ∧ oI (Hp m F L T) (some 2) 6 5 = some (F 2 5) ∧ oI (Hp m F L T) (some 2) 6 6 = some (F 2 6) ∧ oI (Hp m F L T) (some 2) 6 7 = some (F 2 7) := ⟨oI_H (by omega) rfl rfl, oI_H (by omega) rfl rfl, oI_H (by omega) rfl rfl, oI_H (by omega) rfl rfl, oI_H (by omega) rfl rfl, oI_H (by omega) rfl rfl, oI_H (by omega) rfl rfl⟩
theorem gP_2 {v : Int32} : oP (Hp m F L T) (some 2) 6 1 (.int v) = some (Hp m (up2 F 2 1 v) L T) ∧ oP (Hp m F L T) (some 2) 6 2 (.int v) = some (Hp m (up2 F 2 2 v) L T) ∧ oP (Hp m F L T) (some 2) 6 3 (.int v) = some (Hp m (up2 F 2 3 v) L T) ∧ oP (Hp m F L T) (some 2) 6 4 (.int v) = some (Hp m (up2 F 2 4 v) L T) ∧ oP (Hp m F L T) (some 2) 6 5 (.int v) = some (Hp m (up2 F 2 5 v) L T) ∧ oP (Hp m F L T) (some 2) 6 6 (.int v) = some (Hp m (up2 F 2 6 v) L T) ∧ oP (Hp m F L T) (some 2) 6 7 (.int v) = some (Hp m (up2 F 2 7 v) L T) := ⟨oP_H (by omega) rfl (Nat.le_of_ble_eq_true rfl) rfl, oP_H (by omega) rfl (Nat.le_of_ble_eq_true rfl) rfl, oP_H (by omega) rfl (Nat.le_of_ble_eq_true rfl) rfl, oP_H (by omega) rfl (Nat.le_of_ble_eq_true rfl) rfl, oP_H (by omega) rfl (Nat.le_of_ble_eq_true rfl) rfl, oP_H (by omega) rfl (Nat.le_of_ble_eq_true rfl) rfl, oP_H (by omega) rfl (Nat.le_of_ble_eq_true rfl) rfl⟩
theorem gR_2 : oR (Hp m F L T) (some 2) 6 0 = some (some 3) ∧ oC (Hp m F L T) (some 2) = some 6 ∧ oCk (Hp m F L T) (some 2) 6 = some () := ⟨oR_H (by omega) rfl rfl, oC_H (by omega) rfl, oCk_H (by omega) rfl⟩
theorem gI_4 : oI (Hp m F L T) (some 4) 2 0 = some (F 4 0) ∧ oI (Hp m F L T) (some 4) 2 1 = some (F 4 1) ∧ oI (Hp m F L T) (some 4) 2 2 = some (F 4 2) ∧ oI (Hp m F L T) (some 4) 2 3 = some (F 4 3) ∧ oI (Hp m F L T) (some 4) 2 4 = some (F 4 4) ∧ oI (Hp m F L T) (some 4) 2 5 = some (F 4 5) ∧ oI (Hp m F L T) (some 4) 2 6 = some (F 4 6) := ⟨oI_H (by omega) rfl rfl, oI_H (by omega) rfl rfl, oI_H (by omega) rfl rfl, oI_H (by omega) rfl rfl, oI_H (by omega) rfl rfl, oI_H (by omega) rfl rfl, oI_H (by omega) rfl rfl⟩
theorem gP_4 {v : Int32} : oP (Hp m F L T) (some 4) 2 0 (.int v) = some (Hp m (up2 F 4 0 v) L T) ∧ oP (Hp m F L T) (some 4) 2 1 (.int v) = some (Hp m (up2 F 4 1 v) L T) ∧ oP (Hp m F L T) (some 4) 2 2 (.int v) = some (Hp m (up2 F 4 2 v) L T) ∧ oP (Hp m F L T) (some 4) 2 3 (.int v) = some (Hp m (up2 F 4 3 v) L T) ∧ oP (Hp m F L T) (some 4) 2 4 (.int v) = some (Hp m (up2 F 4 4 v) L T) ∧ oP (Hp m F L T) (some 4) 2 5 (.int v) = some (Hp m (up2 F 4 5 v) L T) ∧ oP (Hp m F L T) (some 4) 2 6 (.int v) = some (Hp m (up2 F 4 6 v) L T) := ⟨oP_H (by omega) rfl (Nat.le_of_ble_eq_true rfl) rfl, oP_H (by omega) rfl (Nat.le_of_ble_eq_true rfl) rfl, oP_H (by omega) rfl (Nat.le_of_ble_eq_true rfl) rfl, oP_H (by omega) rfl (Nat.le_of_ble_eq_true rfl) rfl, oP_H (by omega) rfl (Nat.le_of_ble_eq_true rfl) rfl, oP_H (by omega) rfl (Nat.le_of_ble_eq_true rfl) rfl, oP_H (by omega) rfl (Nat.le_of_ble_eq_true rfl) rfl⟩
theorem gR_4 : oR (Hp m F L T) (some 4) 2 7 = some (some 5) ∧ oR (Hp m F L T) (some 4) 2 8 = some (some 6) ∧ oR (Hp m F L T) (some 4) 2 9 = some (some 7) ∧ oR (Hp m F L T) (some 4) 2 10 = some (some 8) ∧ oC (Hp m F L T) (some 4) = some 2 ∧ oCk (Hp m F L T) (some 4) 2 = some () := ⟨oR_H (by omega) rfl rfl, oR_H (by omega) rfl rfl, oR_H (by omega) rfl rfl, oR_H (by omega) rfl rfl, oC_H (by omega) rfl, oCk_H (by omega) rfl⟩
theorem gI_9 : oI (Hp m F L T) (some 9) 2 0 = some (F 9 0) ∧ oI (Hp m F L T) (some 9) 2 1 = some (F 9 1) ∧ oI (Hp m F L T) (some 9) 2 2 = some (F 9 2) ∧ oI (Hp m F L T) (some 9) 2 3 = some (F 9 3) ∧ oI (Hp m F L T) (some 9) 2 4 = some (F 9 4) ∧ oI (Hp m F L T) (some 9) 2 5 = some (F 9 5) ∧ oI (Hp m F L T) (some 9) 2 6 = some (F 9 6) := ⟨oI_H (by omega) rfl rfl, oI_H (by omega) rfl rfl, oI_H (by omega) rfl rfl, oI_H (by omega) rfl rfl, oI_H (by omega) rfl rfl, oI_H (by omega) rfl rfl, oI_H (by omega) rfl rfl⟩
theorem gP_9 {v : Int32} : oP (Hp m F L T) (some 9) 2 0 (.int v) = some (Hp m (up2 F 9 0 v) L T) ∧ oP (Hp m F L T) (some 9) 2 1 (.int v) = some (Hp m (up2 F 9 1 v) L T) ∧ oP (Hp m F L T) (some 9) 2 2 (.int v) = some (Hp m (up2 F 9 2 v) L T) ∧ oP (Hp m F L T) (some 9) 2 3 (.int v) = some (Hp m (up2 F 9 3 v) L T) ∧ oP (Hp m F L T) (some 9) 2 4 (.int v) = some (Hp m (up2 F 9 4 v) L T) ∧ oP (Hp m F L T) (some 9) 2 5 (.int v) = some (Hp m (up2 F 9 5 v) L T) ∧ oP (Hp m F L T) (some 9) 2 6 (.int v) = some (Hp m (up2 F 9 6 v) L T) := ⟨oP_H (by omega) rfl (Nat.le_of_ble_eq_true rfl) rfl, oP_H (by omega) rfl (Nat.le_of_ble_eq_true rfl) rfl, oP_H (by omega) rfl (Nat.le_of_ble_eq_true rfl) rfl, oP_H (by omega) rfl (Nat.le_of_ble_eq_true rfl) rfl, oP_H (by omega) rfl (Nat.le_of_ble_eq_true rfl) rfl, oP_H (by omega) rfl (Nat.le_of_ble_eq_true rfl) rfl, oP_H (by omega) rfl (Nat.le_of_ble_eq_true rfl) rfl⟩
theorem gR_9 : oR (Hp m F L T) (some 9) 2 7 = some (some 10) ∧ oR (Hp m F L T) (some 9) 2 8 = some (some 11) ∧ oR (Hp m F L T) (some 9) 2 9 = some (some 12) ∧ oR (Hp m F L T) (some 9) 2 10 = some (some 13) ∧ oC (Hp m F L T) (some 9) = some 2 ∧ oCk (Hp m F L T) (some 9) 2 = some () := ⟨oR_H (by omega) rfl rfl, oR_H (by omega) rfl rfl, oR_H (by omega) rfl rfl, oR_H (by omega) rfl rfl, oC_H (by omega) rfl, oCk_H (by omega) rfl⟩
theorem gI_39 : oI (Hp m F L T) (some 39) 2 0 = some (F 39 0) ∧ oI (Hp m F L T) (some 39) 2 1 = some (F 39 1) ∧ oI (Hp m F L T) (some 39) 2 2 = some (F 39 2) ∧ oI (Hp m F L T) (some 39) 2 3 = some (F 39 3) ∧ oI (Hp m F L T) (some 39) 2 4 = some (F 39 4) ∧ oI (Hp m F L T) (some 39) 2 5 = some (F 39 5) ∧ oI (Hp m F L T) (some 39) 2 6 = some (F 39 6) := ⟨oI_H (by omega) rfl rfl, oI_H (by omega) rfl rfl, oI_H (by omega) rfl rfl, oI_H (by omega) rfl rfl, oI_H (by omega) rfl rfl, oI_H (by omega) rfl rfl, oI_H (by omega) rfl rfl⟩
theorem gP_39 {v : Int32} : oP (Hp m F L T) (some 39) 2 0 (.int v) = some (Hp m (up2 F 39 0 v) L T) ∧ oP (Hp m F L T) (some 39) 2 1 (.int v) = some (Hp m (up2 F 39 1 v) L T) ∧ oP (Hp m F L T) (some 39) 2 2 (.int v) = some (Hp m (up2 F 39 2 v) L T) ∧ oP (Hp m F L T) (some 39) 2 3 (.int v) = some (Hp m (up2 F 39 3 v) L T) ∧ oP (Hp m F L T) (some 39) 2 4 (.int v) = some (Hp m (up2 F 39 4 v) L T) ∧ oP (Hp m F L T) (some 39) 2 5 (.int v) = some (Hp m (up2 F 39 5 v) L T) ∧ oP (Hp m F L T) (some 39) 2 6 (.int v) = some (Hp m (up2 F 39 6 v) L T) := ⟨oP_H (by omega) rfl (Nat.le_of_ble_eq_true rfl) rfl, oP_H (by omega) rfl (Nat.le_of_ble_eq_true rfl) rfl, oP_H (by omega) rfl (Nat.le_of_ble_eq_true rfl) rfl, oP_H (by omega) rfl (Nat.le_of_ble_eq_true rfl) rfl, oP_H (by omega) rfl (Nat.le_of_ble_eq_true rfl) rfl, oP_H (by omega) rfl (Nat.le_of_ble_eq_true rfl) rfl, oP_H (by omega) rfl (Nat.le_of_ble_eq_true rfl) rfl⟩
theorem gR_39 : oR (Hp m F L T) (some 39) 2 7 = some (some 40) ∧ oR (Hp m F L T) (some 39) 2 8 = some (some 41) ∧ oR (Hp m F L T) (some 39) 2 9 = some (some 42) ∧ oR (Hp m F L T) (some 39) 2 10 = some (some 43) ∧ oC (Hp m F L T) (some 39) = some 2 ∧ oCk (Hp m F L T) (some 39) 2 = some () := ⟨oR_H (by omega) rfl rfl, oR_H (by omega) rfl rfl, oR_H (by omega) rfl rfl, oR_H (by omega) rfl rfl, oC_H (by omega) rfl, oCk_H (by omega) rfl⟩
theorem gI_44 : oI (Hp m F L T) (some 44) 2 0 = some (F 44 0) ∧ oI (Hp m F L T) (some 44) 2 1 = some (F 44 1) ∧ oI (Hp m F L T) (some 44) 2 2 = some (F 44 2) ∧ oI (Hp m F L T) (some 44) 2 3 = some (F 44 3) ∧ oI (Hp m F L T) (some 44) 2 4 = some (F 44 4) ∧ oI (Hp m F L T) (some 44) 2 5 = some (F 44 5) ∧ oI (Hp m F L T) (some 44) 2 6 = some (F 44 6) := ⟨oI_H (by omega) rfl rfl, oI_H (by omega) rfl rfl, oI_H (by omega) rfl rfl, oI_H (by omega) rfl rfl, oI_H (by omega) rfl rfl, oI_H (by omega) rfl rfl, oI_H (by omega) rfl rfl⟩
theorem gP_44 {v : Int32} : oP (Hp m F L T) (some 44) 2 0 (.int v) = some (Hp m (up2 F 44 0 v) L T) ∧ oP (Hp m F L T) (some 44) 2 1 (.int v) = some (Hp m (up2 F 44 1 v) L T) ∧ oP (Hp m F L T) (some 44) 2 2 (.int v) = some (Hp m (up2 F 44 2 v) L T) ∧ oP (Hp m F L T) (some 44) 2 3 (.int v) = some (Hp m (up2 F 44 3 v) L T) ∧ oP (Hp m F L T) (some 44) 2 4 (.int v) = some (Hp m (up2 F 44 4 v) L T) ∧ oP (Hp m F L T) (some 44) 2 5 (.int v) = some (Hp m (up2 F 44 5 v) L T) ∧ oP (Hp m F L T) (some 44) 2 6 (.int v) = some (Hp m (up2 F 44 6 v) L T) := ⟨oP_H (by omega) rfl (Nat.le_of_ble_eq_true rfl) rfl, oP_H (by omega) rfl (Nat.le_of_ble_eq_true rfl) rfl, oP_H (by omega) rfl (Nat.le_of_ble_eq_true rfl) rfl, oP_H (by omega) rfl (Nat.le_of_ble_eq_true rfl) rfl, oP_H (by omega) rfl (Nat.le_of_ble_eq_true rfl) rfl, oP_H (by omega) rfl (Nat.le_of_ble_eq_true rfl) rfl, oP_H (by omega) rfl (Nat.le_of_ble_eq_true rfl) rfl⟩
theorem gR_44 : oR (Hp m F L T) (some 44) 2 7 = some (some 45) ∧ oR (Hp m F L T) (some 44) 2 8 = some (some 46) ∧ oR (Hp m F L T) (some 44) 2 9 = some (some 47) ∧ oR (Hp m F L T) (some 44) 2 10 = some (some 48) ∧ oC (Hp m F L T) (some 44) = some 2 ∧ oCk (Hp m F L T) (some 44) 2 = some () := ⟨oR_H (by omega) rfl rfl, oR_H (by omega) rfl rfl, oR_H (by omega) rfl rfl, oR_H (by omega) rfl rfl, oC_H (by omega) rfl, oCk_H (by omega) rfl⟩
theorem gI_15 : oI (Hp m F L T) (some 15) 9 0 = some (F 15 0) ∧ oI (Hp m F L T) (some 15) 9 1 = some (F 15 1) ∧ oI (Hp m F L T) (some 15) 9 2 = some (F 15 2) ∧ oI (Hp m F L T) (some 15) 9 3 = some (F 15 3) ∧ oI (Hp m F L T) (some 15) 9 4 = some (F 15 4) ∧ oI (Hp m F L T) (some 15) 9 5 = some (F 15 5) ∧ oI (Hp m F L T) (some 15) 9 6 = some (F 15 6) ∧ oI (Hp m F L T) (some 15) 9 7 = some (F 15 7) := ⟨oI_H (by omega) rfl rfl, oI_H (by omega) rfl rfl, oI_H (by omega) rfl rfl, oI_H (by omega) rfl rfl, oI_H (by omega) rfl rfl, oI_H (by omega) rfl rfl, oI_H (by omega) rfl rfl, oI_H (by omega) rfl rfl⟩
theorem gP_15 {v : Int32} : oP (Hp m F L T) (some 15) 9 0 (.int v) = some (Hp m (up2 F 15 0 v) L T) ∧ oP (Hp m F L T) (some 15) 9 1 (.int v) = some (Hp m (up2 F 15 1 v) L T) ∧ oP (Hp m F L T) (some 15) 9 2 (.int v) = some (Hp m (up2 F 15 2 v) L T) ∧ oP (Hp m F L T) (some 15) 9 3 (.int v) = some (Hp m (up2 F 15 3 v) L T) ∧ oP (Hp m F L T) (some 15) 9 4 (.int v) = some (Hp m (up2 F 15 4 v) L T) ∧ oP (Hp m F L T) (some 15) 9 5 (.int v) = some (Hp m (up2 F 15 5 v) L T) ∧ oP (Hp m F L T) (some 15) 9 6 (.int v) = some (Hp m (up2 F 15 6 v) L T) ∧ oP (Hp m F L T) (some 15) 9 7 (.int v) = some (Hp m (up2 F 15 7 v) L T) := ⟨oP_H (by omega) rfl (Nat.le_of_ble_eq_true rfl) rfl, oP_H (by omega) rfl (Nat.le_of_ble_eq_true rfl) rfl, oP_H (by omega) rfl (Nat.le_of_ble_eq_true rfl) rfl, oP_H (by omega) rfl (Nat.le_of_ble_eq_true rfl) rfl, oP_H (by omega) rfl (Nat.le_of_ble_eq_true rfl) rfl, oP_H (by omega) rfl (Nat.le_of_ble_eq_true rfl) rfl, oP_H (by omega) rfl (Nat.le_of_ble_eq_true rfl) rfl, oP_H (by omega) rfl (Nat.le_of_ble_eq_true rfl) rfl⟩
theorem gR_15 : oR (Hp m F L T) (some 15) 9 8 = some (some 16) ∧ oR (Hp m F L T) (some 15) 9 9 = some (some 17) ∧ oR (Hp m F L T) (some 15) 9 10 = some (some 18) ∧ oR (Hp m F L T) (some 15) 9 11 = some (some 19) ∧ oR (Hp m F L T) (some 15) 9 12 = some (some 20) ∧ oC (Hp m F L T) (some 15) = some 9 ∧ oCk (Hp m F L T) (some 15) 9 = some () := ⟨oR_H (by omega) rfl rfl, oR_H (by omega) rfl rfl, oR_H (by omega) rfl rfl, oR_H (by omega) rfl rfl, oR_H (by omega) rfl rfl, oC_H (by omega) rfl, oCk_H (by omega) rfl⟩
theorem gI_21 : oI (Hp m F L T) (some 21) 0 0 = some (F 21 0) ∧ oI (Hp m F L T) (some 21) 0 1 = some (F 21 1) := ⟨oI_H (by omega) rfl rfl, oI_H (by omega) rfl rfl⟩
theorem gP_21 {v : Int32} : oP (Hp m F L T) (some 21) 0 0 (.int v) = some (Hp m (up2 F 21 0 v) L T) ∧ oP (Hp m F L T) (some 21) 0 1 (.int v) = some (Hp m (up2 F 21 1 v) L T) := ⟨oP_H (by omega) rfl (Nat.le_of_ble_eq_true rfl) rfl, oP_H (by omega) rfl (Nat.le_of_ble_eq_true rfl) rfl⟩
theorem gR_21 : oR (Hp m F L T) (some 21) 0 2 = some (some 22) ∧ oC (Hp m F L T) (some 21) = some 0 ∧ oCk (Hp m F L T) (some 21) 0 = some () := ⟨oR_H (by omega) rfl rfl, oC_H (by omega) rfl, oCk_H (by omega) rfl⟩
theorem gI_49 : oI (Hp m F L T) (some 49) 11 0 = some (F 49 0) ∧ oI (Hp m F L T) (some 49) 11 1 = some (F 49 1) ∧ oI (Hp m F L T) (some 49) 11 8 = some (F 49 8) ∧ oI (Hp m F L T) (some 49) 11 9 = some (F 49 9) ∧ oI (Hp m F L T) (some 49) 11 10 = some (F 49 10) ∧ oI (Hp m F L T) (some 49) 11 11 = some (F 49 11) ∧ oI (Hp m F L T) (some 49) 11 12 = some (F 49 12) ∧ oI (Hp m F L T) (some 49) 11 13 = some (F 49 13) ∧ oI (Hp m F L T) (some 49) 11 14 = some (F 49 14) ∧ oI (Hp m F L T) (some 49) 11 15 = some (F 49 15) ∧ oI (Hp m F L T) (some 49) 11 16 = some (F 49 16) ∧ oI (Hp m F L T) (some 49) 11 18 = some (F 49 18) ∧ oI (Hp m F L T) (some 49) 11 19 = some (F 49 19) ∧ oI (Hp m F L T) (some 49) 11 20 = some (F 49 20) ∧ oI (Hp m F L T) (some 49) 11 22 = some (F 49 22) ∧ oI (Hp m F L T) (some 49) 11 24 = some (F 49 24) ∧ oI (Hp m F L T) (some 49) 11 25 = some (F 49 25) ∧ oI (Hp m F L T) (some 49) 11 26 = some (F 49 26) ∧ oI (Hp m F L T) (some 49) 11 30 = some (F 49 30) := ⟨oI_H (by omega) rfl rfl, oI_H (by omega) rfl rfl, oI_H (by omega) rfl rfl, oI_H (by omega) rfl rfl, oI_H (by omega) rfl rfl, oI_H (by omega) rfl rfl, oI_H (by omega) rfl rfl, oI_H (by omega) rfl rfl, oI_H (by omega) rfl rfl, oI_H (by omega) rfl rfl, oI_H (by omega) rfl rfl, oI_H (by omega) rfl rfl, oI_H (by omega) rfl rfl, oI_H (by omega) rfl rfl, oI_H (by omega) rfl rfl, oI_H (by omega) rfl rfl, oI_H (by omega) rfl rfl, oI_H (by omega) rfl rfl, oI_H (by omega) rfl rfl⟩
theorem gP_49 {v : Int32} : oP (Hp m F L T) (some 49) 11 0 (.int v) = some (Hp m (up2 F 49 0 v) L T) ∧ oP (Hp m F L T) (some 49) 11 1 (.int v) = some (Hp m (up2 F 49 1 v) L T) ∧ oP (Hp m F L T) (some 49) 11 8 (.int v) = some (Hp m (up2 F 49 8 v) L T) ∧ oP (Hp m F L T) (some 49) 11 9 (.int v) = some (Hp m (up2 F 49 9 v) L T) ∧ oP (Hp m F L T) (some 49) 11 10 (.int v) = some (Hp m (up2 F 49 10 v) L T) ∧ oP (Hp m F L T) (some 49) 11 11 (.int v) = some (Hp m (up2 F 49 11 v) L T) ∧ oP (Hp m F L T) (some 49) 11 12 (.int v) = some (Hp m (up2 F 49 12 v) L T) ∧ oP (Hp m F L T) (some 49) 11 13 (.int v) = some (Hp m (up2 F 49 13 v) L T) ∧ oP (Hp m F L T) (some 49) 11 14 (.int v) = some (Hp m (up2 F 49 14 v) L T) ∧ oP (Hp m F L T) (some 49) 11 15 (.int v) = some (Hp m (up2 F 49 15 v) L T) ∧ oP (Hp m F L T) (some 49) 11 16 (.int v) = some (Hp m (up2 F 49 16 v) L T) ∧ oP (Hp m F L T) (some 49) 11 18 (.int v) = some (Hp m (up2 F 49 18 v) L T) ∧ oP (Hp m F L T) (some 49) 11 19 (.int v) = some (Hp m (up2 F 49 19 v) L T) ∧ oP (Hp m F L T) (some 49) 11 20 (.int v) = some (Hp m (up2 F 49 20 v) L T) ∧ oP (Hp m F L T) (some 49) 11 22 (.int v) = some (Hp m (up2 F 49 22 v) L T) ∧ oP (Hp m F L T) (some 49) 11 24 (.int v) = some (Hp m (up2 F 49 24 v) L T) ∧ oP (Hp m F L T) (some 49) 11 25 (.int v) = some (Hp m (up2 F 49 25 v) L T) ∧ oP (Hp m F L T) (some 49) 11 26 (.int v) = some (Hp m (up2 F 49 26 v) L T) ∧ oP (Hp m F L T) (some 49) 11 30 (.int v) = some (Hp m (up2 F 49 30 v) L T) := ⟨oP_H (by omega) rfl (Nat.le_of_ble_eq_true rfl) rfl, oP_H (by omega) rfl (Nat.le_of_ble_eq_true rfl) rfl, oP_H (by omega) rfl (Nat.le_of_ble_eq_true rfl) rfl, oP_H (by omega) rfl (Nat.le_of_ble_eq_true rfl) rfl, oP_H (by omega) rfl (Nat.le_of_ble_eq_true rfl) rfl, oP_H (by omega) rfl (Nat.le_of_ble_eq_true rfl) rfl, oP_H (by omega) rfl (Nat.le_of_ble_eq_true rfl) rfl, oP_H (by omega) rfl (Nat.le_of_ble_eq_true rfl) rfl, oP_H (by omega) rfl (Nat.le_of_ble_eq_true rfl) rfl, oP_H (by omega) rfl (Nat.le_of_ble_eq_true rfl) rfl, oP_H (by omega) rfl (Nat.le_of_ble_eq_true rfl) rfl, oP_H (by omega) rfl (Nat.le_of_ble_eq_true rfl) rfl, oP_H (by omega) rfl (Nat.le_of_ble_eq_true rfl) rfl, oP_H (by omega) rfl (Nat.le_of_ble_eq_true rfl) rfl, oP_H (by omega) rfl (Nat.le_of_ble_eq_true rfl) rfl, oP_H (by omega) rfl (Nat.le_of_ble_eq_true rfl) rfl, oP_H (by omega) rfl (Nat.le_of_ble_eq_true rfl) rfl, oP_H (by omega) rfl (Nat.le_of_ble_eq_true rfl) rfl, oP_H (by omega) rfl (Nat.le_of_ble_eq_true rfl) rfl⟩
theorem gR_49 : oR (Hp m F L T) (some 49) 11 2 = some (some 50) ∧ oR (Hp m F L T) (some 49) 11 3 = some (some 51) ∧ oR (Hp m F L T) (some 49) 11 4 = some (some 52) ∧ oR (Hp m F L T) (some 49) 11 5 = some (some 53) ∧ oR (Hp m F L T) (some 49) 11 6 = some (some 54) ∧ oR (Hp m F L T) (some 49) 11 7 = some (some 55) ∧ oR (Hp m F L T) (some 49) 11 17 = some (some 56) ∧ oR (Hp m F L T) (some 49) 11 21 = some (some 57) ∧ oR (Hp m F L T) (some 49) 11 23 = some (some 58) ∧ oR (Hp m F L T) (some 49) 11 27 = some (some 59) ∧ oR (Hp m F L T) (some 49) 11 28 = some (some 60) ∧ oR (Hp m F L T) (some 49) 11 29 = some (some 61) ∧ oC (Hp m F L T) (some 49) = some 11 ∧ oCk (Hp m F L T) (some 49) 11 = some () := ⟨oR_H (by omega) rfl rfl, oR_H (by omega) rfl rfl, oR_H (by omega) rfl rfl, oR_H (by omega) rfl rfl, oR_H (by omega) rfl rfl, oR_H (by omega) rfl rfl, oR_H (by omega) rfl rfl, oR_H (by omega) rfl rfl, oR_H (by omega) rfl rfl, oR_H (by omega) rfl rfl, oR_H (by omega) rfl rfl, oR_H (by omega) rfl rfl, oC_H (by omega) rfl, oCk_H (by omega) rfl⟩
theorem gA_5 {i x : Int32} : oA (Hp m F L T) (some 5) 0 i = (if i < 0 ∨ 4 ≤ i.toNatClampNeg then none else some (F 5 i.toNatClampNeg)) ∧ oS (Hp m F L T) (some 5) 0 i x = (if i < 0 ∨ 4 ≤ i.toNatClampNeg then none else some (Hp m (up2 F 5 i.toNatClampNeg x) L T)) ∧ oN (Hp m F L T) (some 5) 0 = some (Int32.ofNat 4) := ⟨oA_H (by omega) rfl, oS_H (by omega) (fun _ => rfl), oN_H (by omega) rfl⟩
theorem gA_6 {i x : Int32} : oA (Hp m F L T) (some 6) 0 i = (if i < 0 ∨ 4 ≤ i.toNatClampNeg then none else some (F 6 i.toNatClampNeg)) ∧ oS (Hp m F L T) (some 6) 0 i x = (if i < 0 ∨ 4 ≤ i.toNatClampNeg then none else some (Hp m (up2 F 6 i.toNatClampNeg x) L T)) ∧ oN (Hp m F L T) (some 6) 0 = some (Int32.ofNat 4) := ⟨oA_H (by omega) rfl, oS_H (by omega) (fun _ => rfl), oN_H (by omega) rfl⟩
theorem gA_8 {i x : Int32} : oA (Hp m F L T) (some 8) 0 i = (if i < 0 ∨ 26 ≤ i.toNatClampNeg then none else some (F 8 i.toNatClampNeg)) ∧ oS (Hp m F L T) (some 8) 0 i x = (if i < 0 ∨ 26 ≤ i.toNatClampNeg then none else some (Hp m (up2 F 8 i.toNatClampNeg x) L T)) ∧ oN (Hp m F L T) (some 8) 0 = some (Int32.ofNat 26) := ⟨oA_H (by omega) rfl, oS_H (by omega) (fun _ => rfl), oN_H (by omega) rfl⟩
theorem gA_10 {i x : Int32} : oA (Hp m F L T) (some 10) 0 i = (if i < 0 ∨ 4 ≤ i.toNatClampNeg then none else some (F 10 i.toNatClampNeg)) ∧ oS (Hp m F L T) (some 10) 0 i x = (if i < 0 ∨ 4 ≤ i.toNatClampNeg then none else some (Hp m (up2 F 10 i.toNatClampNeg x) L T)) ∧ oN (Hp m F L T) (some 10) 0 = some (Int32.ofNat 4) := ⟨oA_H (by omega) rfl, oS_H (by omega) (fun _ => rfl), oN_H (by omega) rfl⟩
theorem gA_11 {i x : Int32} : oA (Hp m F L T) (some 11) 0 i = (if i < 0 ∨ 4 ≤ i.toNatClampNeg then none else some (F 11 i.toNatClampNeg)) ∧ oS (Hp m F L T) (some 11) 0 i x = (if i < 0 ∨ 4 ≤ i.toNatClampNeg then none else some (Hp m (up2 F 11 i.toNatClampNeg x) L T)) ∧ oN (Hp m F L T) (some 11) 0 = some (Int32.ofNat 4) := ⟨oA_H (by omega) rfl, oS_H (by omega) (fun _ => rfl), oN_H (by omega) rfl⟩
theorem gA_13 {i x : Int32} : oA (Hp m F L T) (some 13) 0 i = (if i < 0 ∨ 26 ≤ i.toNatClampNeg then none else some (F 13 i.toNatClampNeg)) ∧ oS (Hp m F L T) (some 13) 0 i x = (if i < 0 ∨ 26 ≤ i.toNatClampNeg then none else some (Hp m (up2 F 13 i.toNatClampNeg x) L T)) ∧ oN (Hp m F L T) (some 13) 0 = some (Int32.ofNat 26) := ⟨oA_H (by omega) rfl, oS_H (by omega) (fun _ => rfl), oN_H (by omega) rfl⟩
theorem gA_16 {i x : Int32} : oA (Hp m F L T) (some 16) 0 i = (if i < 0 ∨ 1664 ≤ i.toNatClampNeg then none else some (F 16 i.toNatClampNeg)) ∧ oS (Hp m F L T) (some 16) 0 i x = (if i < 0 ∨ 1664 ≤ i.toNatClampNeg then none else some (Hp m (up2 F 16 i.toNatClampNeg x) L T)) ∧ oN (Hp m F L T) (some 16) 0 = some (Int32.ofNat 1664) := ⟨oA_H (by omega) rfl, oS_H (by omega) (fun _ => rfl), oN_H (by omega) rfl⟩
theorem gA_17 {i x : Int32} : oA (Hp m F L T) (some 17) 0 i = (if i < 0 ∨ 1664 ≤ i.toNatClampNeg then none else some (F 17 i.toNatClampNeg)) ∧ oS (Hp m F L T) (some 17) 0 i x = (if i < 0 ∨ 1664 ≤ i.toNatClampNeg then none else some (Hp m (up2 F 17 i.toNatClampNeg x) L T)) ∧ oN (Hp m F L T) (some 17) 0 = some (Int32.ofNat 1664) := ⟨oA_H (by omega) rfl, oS_H (by omega) (fun _ => rfl), oN_H (by omega) rfl⟩
theorem gA_18 {i x : Int32} : oA (Hp m F L T) (some 18) 0 i = (if i < 0 ∨ 26 ≤ i.toNatClampNeg then none else some (F 18 i.toNatClampNeg)) ∧ oS (Hp m F L T) (some 18) 0 i x = (if i < 0 ∨ 26 ≤ i.toNatClampNeg then none else some (Hp m (up2 F 18 i.toNatClampNeg x) L T)) ∧ oN (Hp m F L T) (some 18) 0 = some (Int32.ofNat 26) := ⟨oA_H (by omega) rfl, oS_H (by omega) (fun _ => rfl), oN_H (by omega) rfl⟩
theorem gA_19 {i x : Int32} : oA (Hp m F L T) (some 19) 0 i = (if i < 0 ∨ 24 ≤ i.toNatClampNeg then none else some (F 19 i.toNatClampNeg)) ∧ oS (Hp m F L T) (some 19) 0 i x = (if i < 0 ∨ 24 ≤ i.toNatClampNeg then none else some (Hp m (up2 F 19 i.toNatClampNeg x) L T)) ∧ oN (Hp m F L T) (some 19) 0 = some (Int32.ofNat 24) := ⟨oA_H (by omega) rfl, oS_H (by omega) (fun _ => rfl), oN_H (by omega) rfl⟩
theorem gA_20 {i x : Int32} : oA (Hp m F L T) (some 20) 0 i = (if i < 0 ∨ 4096 ≤ i.toNatClampNeg then none else some (F 20 i.toNatClampNeg)) ∧ oS (Hp m F L T) (some 20) 0 i x = (if i < 0 ∨ 4096 ≤ i.toNatClampNeg then none else some (Hp m (up2 F 20 i.toNatClampNeg x) L T)) ∧ oN (Hp m F L T) (some 20) 0 = some (Int32.ofNat 4096) := ⟨oA_H (by omega) rfl, oS_H (by omega) (fun _ => rfl), oN_H (by omega) rfl⟩
theorem gA_22 {i x : Int32} : oA (Hp m F L T) (some 22) 0 i = (if i < 0 ∨ 16 ≤ i.toNatClampNeg then none else some (F 22 i.toNatClampNeg)) ∧ oS (Hp m F L T) (some 22) 0 i x = (if i < 0 ∨ 16 ≤ i.toNatClampNeg then none else some (Hp m (up2 F 22 i.toNatClampNeg x) L T)) ∧ oN (Hp m F L T) (some 22) 0 = some (Int32.ofNat 16) := ⟨oA_H (by omega) rfl, oS_H (by omega) (fun _ => rfl), oN_H (by omega) rfl⟩
theorem gA_40 {i x : Int32} : oA (Hp m F L T) (some 40) 0 i = (if i < 0 ∨ 4 ≤ i.toNatClampNeg then none else some (F 40 i.toNatClampNeg)) ∧ oS (Hp m F L T) (some 40) 0 i x = (if i < 0 ∨ 4 ≤ i.toNatClampNeg then none else some (Hp m (up2 F 40 i.toNatClampNeg x) L T)) ∧ oN (Hp m F L T) (some 40) 0 = some (Int32.ofNat 4) := ⟨oA_H (by omega) rfl, oS_H (by omega) (fun _ => rfl), oN_H (by omega) rfl⟩
theorem gA_41 {i x : Int32} : oA (Hp m F L T) (some 41) 0 i = (if i < 0 ∨ 4 ≤ i.toNatClampNeg then none else some (F 41 i.toNatClampNeg)) ∧ oS (Hp m F L T) (some 41) 0 i x = (if i < 0 ∨ 4 ≤ i.toNatClampNeg then none else some (Hp m (up2 F 41 i.toNatClampNeg x) L T)) ∧ oN (Hp m F L T) (some 41) 0 = some (Int32.ofNat 4) := ⟨oA_H (by omega) rfl, oS_H (by omega) (fun _ => rfl), oN_H (by omega) rfl⟩
theorem gA_43 {i x : Int32} : oA (Hp m F L T) (some 43) 0 i = (if i < 0 ∨ 26 ≤ i.toNatClampNeg then none else some (F 43 i.toNatClampNeg)) ∧ oS (Hp m F L T) (some 43) 0 i x = (if i < 0 ∨ 26 ≤ i.toNatClampNeg then none else some (Hp m (up2 F 43 i.toNatClampNeg x) L T)) ∧ oN (Hp m F L T) (some 43) 0 = some (Int32.ofNat 26) := ⟨oA_H (by omega) rfl, oS_H (by omega) (fun _ => rfl), oN_H (by omega) rfl⟩
theorem gA_45 {i x : Int32} : oA (Hp m F L T) (some 45) 0 i = (if i < 0 ∨ 4 ≤ i.toNatClampNeg then none else some (F 45 i.toNatClampNeg)) ∧ oS (Hp m F L T) (some 45) 0 i x = (if i < 0 ∨ 4 ≤ i.toNatClampNeg then none else some (Hp m (up2 F 45 i.toNatClampNeg x) L T)) ∧ oN (Hp m F L T) (some 45) 0 = some (Int32.ofNat 4) := ⟨oA_H (by omega) rfl, oS_H (by omega) (fun _ => rfl), oN_H (by omega) rfl⟩
theorem gA_46 {i x : Int32} : oA (Hp m F L T) (some 46) 0 i = (if i < 0 ∨ 4 ≤ i.toNatClampNeg then none else some (F 46 i.toNatClampNeg)) ∧ oS (Hp m F L T) (some 46) 0 i x = (if i < 0 ∨ 4 ≤ i.toNatClampNeg then none else some (Hp m (up2 F 46 i.toNatClampNeg x) L T)) ∧ oN (Hp m F L T) (some 46) 0 = some (Int32.ofNat 4) := ⟨oA_H (by omega) rfl, oS_H (by omega) (fun _ => rfl), oN_H (by omega) rfl⟩
theorem gA_48 {i x : Int32} : oA (Hp m F L T) (some 48) 0 i = (if i < 0 ∨ 26 ≤ i.toNatClampNeg then none else some (F 48 i.toNatClampNeg)) ∧ oS (Hp m F L T) (some 48) 0 i x = (if i < 0 ∨ 26 ≤ i.toNatClampNeg then none else some (Hp m (up2 F 48 i.toNatClampNeg x) L T)) ∧ oN (Hp m F L T) (some 48) 0 = some (Int32.ofNat 26) := ⟨oA_H (by omega) rfl, oS_H (by omega) (fun _ => rfl), oN_H (by omega) rfl⟩
theorem gA_50 {i x : Int32} : oA (Hp m F L T) (some 50) 0 i = (if i < 0 ∨ 8 ≤ i.toNatClampNeg then none else some (F 50 i.toNatClampNeg)) ∧ oS (Hp m F L T) (some 50) 0 i x = (if i < 0 ∨ 8 ≤ i.toNatClampNeg then none else some (Hp m (up2 F 50 i.toNatClampNeg x) L T)) ∧ oN (Hp m F L T) (some 50) 0 = some (Int32.ofNat 8) := ⟨oA_H (by omega) rfl, oS_H (by omega) (fun _ => rfl), oN_H (by omega) rfl⟩
theorem gA_51 {i x : Int32} : oA (Hp m F L T) (some 51) 0 i = (if i < 0 ∨ 8 ≤ i.toNatClampNeg then none else some (F 51 i.toNatClampNeg)) ∧ oS (Hp m F L T) (some 51) 0 i x = (if i < 0 ∨ 8 ≤ i.toNatClampNeg then none else some (Hp m (up2 F 51 i.toNatClampNeg x) L T)) ∧ oN (Hp m F L T) (some 51) 0 = some (Int32.ofNat 8) := ⟨oA_H (by omega) rfl, oS_H (by omega) (fun _ => rfl), oN_H (by omega) rfl⟩
theorem gA_52 {i x : Int32} : oA (Hp m F L T) (some 52) 0 i = (if i < 0 ∨ 320 ≤ i.toNatClampNeg then none else some (F 52 i.toNatClampNeg)) ∧ oS (Hp m F L T) (some 52) 0 i x = (if i < 0 ∨ 320 ≤ i.toNatClampNeg then none else some (Hp m (up2 F 52 i.toNatClampNeg x) L T)) ∧ oN (Hp m F L T) (some 52) 0 = some (Int32.ofNat 320) := ⟨oA_H (by omega) rfl, oS_H (by omega) (fun _ => rfl), oN_H (by omega) rfl⟩
theorem gA_53 {i x : Int32} : oA (Hp m F L T) (some 53) 0 i = (if i < 0 ∨ 39 ≤ i.toNatClampNeg then none else some (F 53 i.toNatClampNeg)) ∧ oS (Hp m F L T) (some 53) 0 i x = (if i < 0 ∨ 39 ≤ i.toNatClampNeg then none else some (Hp m (up2 F 53 i.toNatClampNeg x) L T)) ∧ oN (Hp m F L T) (some 53) 0 = some (Int32.ofNat 39) := ⟨oA_H (by omega) rfl, oS_H (by omega) (fun _ => rfl), oN_H (by omega) rfl⟩
theorem gA_54 {i x : Int32} : oA (Hp m F L T) (some 54) 0 i = (if i < 0 ∨ 39 ≤ i.toNatClampNeg then none else some (F 54 i.toNatClampNeg)) ∧ oS (Hp m F L T) (some 54) 0 i x = (if i < 0 ∨ 39 ≤ i.toNatClampNeg then none else some (Hp m (up2 F 54 i.toNatClampNeg x) L T)) ∧ oN (Hp m F L T) (some 54) 0 = some (Int32.ofNat 39) := ⟨oA_H (by omega) rfl, oS_H (by omega) (fun _ => rfl), oN_H (by omega) rfl⟩
theorem gA_55 {i x : Int32} : oA (Hp m F L T) (some 55) 0 i = (if i < 0 ∨ 400 ≤ i.toNatClampNeg then none else some (F 55 i.toNatClampNeg)) ∧ oS (Hp m F L T) (some 55) 0 i x = (if i < 0 ∨ 400 ≤ i.toNatClampNeg then none else some (Hp m (up2 F 55 i.toNatClampNeg x) L T)) ∧ oN (Hp m F L T) (some 55) 0 = some (Int32.ofNat 400) := ⟨oA_H (by omega) rfl, oS_H (by omega) (fun _ => rfl), oN_H (by omega) rfl⟩
theorem gA_56 {i x : Int32} : oA (Hp m F L T) (some 56) 0 i = (if i < 0 ∨ 4 ≤ i.toNatClampNeg then none else some (F 56 i.toNatClampNeg)) ∧ oS (Hp m F L T) (some 56) 0 i x = (if i < 0 ∨ 4 ≤ i.toNatClampNeg then none else some (Hp m (up2 F 56 i.toNatClampNeg x) L T)) ∧ oN (Hp m F L T) (some 56) 0 = some (Int32.ofNat 4) := ⟨oA_H (by omega) rfl, oS_H (by omega) (fun _ => rfl), oN_H (by omega) rfl⟩
theorem gA_57 {i x : Int32} : oA (Hp m F L T) (some 57) 0 i = (if i < 0 ∨ 4096 ≤ i.toNatClampNeg then none else some (F 57 i.toNatClampNeg)) ∧ oS (Hp m F L T) (some 57) 0 i x = (if i < 0 ∨ 4096 ≤ i.toNatClampNeg then none else some (Hp m (up2 F 57 i.toNatClampNeg x) L T)) ∧ oN (Hp m F L T) (some 57) 0 = some (Int32.ofNat 4096) := ⟨oA_H (by omega) rfl, oS_H (by omega) (fun _ => rfl), oN_H (by omega) rfl⟩
theorem gA_58 {i x : Int32} : oA (Hp m F L T) (some 58) 0 i = (if i < 0 ∨ 26 ≤ i.toNatClampNeg then none else some (F 58 i.toNatClampNeg)) ∧ oS (Hp m F L T) (some 58) 0 i x = (if i < 0 ∨ 26 ≤ i.toNatClampNeg then none else some (Hp m (up2 F 58 i.toNatClampNeg x) L T)) ∧ oN (Hp m F L T) (some 58) 0 = some (Int32.ofNat 26) := ⟨oA_H (by omega) rfl, oS_H (by omega) (fun _ => rfl), oN_H (by omega) rfl⟩
theorem gA_60 {i x : Int32} : oA (Hp m F L T) (some 60) 0 i = (if i < 0 ∨ 78 ≤ i.toNatClampNeg then none else some (F 60 i.toNatClampNeg)) ∧ oS (Hp m F L T) (some 60) 0 i x = (if i < 0 ∨ 78 ≤ i.toNatClampNeg then none else some (Hp m (up2 F 60 i.toNatClampNeg x) L T)) ∧ oN (Hp m F L T) (some 60) 0 = some (Int32.ofNat 78) := ⟨oA_H (by omega) rfl, oS_H (by omega) (fun _ => rfl), oN_H (by omega) rfl⟩
theorem gA_61 {i x : Int32} : oA (Hp m F L T) (some 61) 0 i = (if i < 0 ∨ 16 ≤ i.toNatClampNeg then none else some (F 61 i.toNatClampNeg)) ∧ oS (Hp m F L T) (some 61) 0 i x = (if i < 0 ∨ 16 ≤ i.toNatClampNeg then none else some (Hp m (up2 F 61 i.toNatClampNeg x) L T)) ∧ oN (Hp m F L T) (some 61) 0 = some (Int32.ofNat 16) := ⟨oA_H (by omega) rfl, oS_H (by omega) (fun _ => rfl), oN_H (by omega) rfl⟩
theorem gA_3 {i x : Int32} : oA (Hp m F L T) (some 3) 1 i = (if i < 0 ∨ 400 ≤ i.toNatClampNeg then none else some (F 3 i.toNatClampNeg)) ∧ oS (Hp m F L T) (some 3) 1 i x = (if i < 0 ∨ 400 ≤ i.toNatClampNeg then none else some (Hp m (up2 F 3 i.toNatClampNeg x) L T)) := ⟨oA_H (by omega) rfl, oS_H (by omega) (fun _ => rfl)⟩
theorem gA_59 {i x : Int32} : oA (Hp m F L T) (some 59) 2 i = (if i < 0 ∨ 2 ≤ i.toNatClampNeg then none else some (F 59 i.toNatClampNeg)) ∧ oS (Hp m F L T) (some 59) 2 i x = (if i < 0 ∨ 2 ≤ i.toNatClampNeg then none else some (Hp m (up2 F 59 i.toNatClampNeg x) L T)) := ⟨oA_H (by omega) rfl, oS_H (by omega) (fun _ => rfl)⟩
theorem gQ_7 {i : Int32} {v : Option Nat} : oQ (Hp m F L T) (some 7) 5 i = (if i < 0 ∨ 4 ≤ i.toNatClampNeg then none else some (L 7 i.toNatClampNeg)) ∧ oU (Hp m F L T) (some 7) 5 i v = (if i < 0 ∨ 4 ≤ i.toNatClampNeg then none else some (Hp m F (up L 7 (va_up (L 7) i.toNatClampNeg v)) T)) := ⟨oQ_H (by omega) rfl, oU_H (by omega) (fun _ => rfl)⟩
theorem gQ_12 {i : Int32} {v : Option Nat} : oQ (Hp m F L T) (some 12) 5 i = (if i < 0 ∨ 4 ≤ i.toNatClampNeg then none else some (L 12 i.toNatClampNeg)) ∧ oU (Hp m F L T) (some 12) 5 i v = (if i < 0 ∨ 4 ≤ i.toNatClampNeg then none else some (Hp m F (up L 12 (va_up (L 12) i.toNatClampNeg v)) T)) := ⟨oQ_H (by omega) rfl, oU_H (by omega) (fun _ => rfl)⟩
theorem gQ_42 {i : Int32} {v : Option Nat} : oQ (Hp m F L T) (some 42) 5 i = (if i < 0 ∨ 4 ≤ i.toNatClampNeg then none else some (L 42 i.toNatClampNeg)) ∧ oU (Hp m F L T) (some 42) 5 i v = (if i < 0 ∨ 4 ≤ i.toNatClampNeg then none else some (Hp m F (up L 42 (va_up (L 42) i.toNatClampNeg v)) T)) := ⟨oQ_H (by omega) rfl, oU_H (by omega) (fun _ => rfl)⟩
theorem gQ_47 {i : Int32} {v : Option Nat} : oQ (Hp m F L T) (some 47) 5 i = (if i < 0 ∨ 4 ≤ i.toNatClampNeg then none else some (L 47 i.toNatClampNeg)) ∧ oU (Hp m F L T) (some 47) 5 i v = (if i < 0 ∨ 4 ≤ i.toNatClampNeg then none else some (Hp m F (up L 47 (va_up (L 47) i.toNatClampNeg v)) T)) := ⟨oQ_H (by omega) rfl, oU_H (by omega) (fun _ => rfl)⟩
theorem rowsF_s : ∀ r : Nat, r < 8 → rowsF r = some (23 + 2 * r)
  | 0, _ => rfl
  | 1, _ => rfl
  | 2, _ => rfl
  | 3, _ => rfl
  | 4, _ => rfl
  | 5, _ => rfl
  | 6, _ => rfl
  | 7, _ => rfl
  | k + 8, h => absurd h (by omega)
theorem gI_r0 {r : Nat} (hr : r < 8) : oI (Hp m F L T) (some (23 + 2 * r)) 3 0 = some (F (23 + 2 * r) 0) := by
  match r, hr with
  | 0, _ => exact oI_H (by omega) rfl rfl
  | 1, _ => exact oI_H (by omega) rfl rfl
  | 2, _ => exact oI_H (by omega) rfl rfl
  | 3, _ => exact oI_H (by omega) rfl rfl
  | 4, _ => exact oI_H (by omega) rfl rfl
  | 5, _ => exact oI_H (by omega) rfl rfl
  | 6, _ => exact oI_H (by omega) rfl rfl
  | 7, _ => exact oI_H (by omega) rfl rfl
  | k + 8, h => exact absurd h (by omega)
theorem gP_r0 {r : Nat} {v : Int32} (hr : r < 8) : oP (Hp m F L T) (some (23 + 2 * r)) 3 0 (.int v) = some (Hp m (up2 F (23 + 2 * r) 0 v) L T) := by
  match r, hr with
  | 0, _ => exact oP_H (by omega) rfl (Nat.le_of_ble_eq_true rfl) rfl
  | 1, _ => exact oP_H (by omega) rfl (Nat.le_of_ble_eq_true rfl) rfl
  | 2, _ => exact oP_H (by omega) rfl (Nat.le_of_ble_eq_true rfl) rfl
  | 3, _ => exact oP_H (by omega) rfl (Nat.le_of_ble_eq_true rfl) rfl
  | 4, _ => exact oP_H (by omega) rfl (Nat.le_of_ble_eq_true rfl) rfl
  | 5, _ => exact oP_H (by omega) rfl (Nat.le_of_ble_eq_true rfl) rfl
  | 6, _ => exact oP_H (by omega) rfl (Nat.le_of_ble_eq_true rfl) rfl
  | 7, _ => exact oP_H (by omega) rfl (Nat.le_of_ble_eq_true rfl) rfl
  | k + 8, h => exact absurd h (by omega)
theorem gI_r1 {r : Nat} (hr : r < 8) : oI (Hp m F L T) (some (23 + 2 * r)) 3 1 = some (F (23 + 2 * r) 1) := by
  match r, hr with
  | 0, _ => exact oI_H (by omega) rfl rfl
  | 1, _ => exact oI_H (by omega) rfl rfl
  | 2, _ => exact oI_H (by omega) rfl rfl
  | 3, _ => exact oI_H (by omega) rfl rfl
  | 4, _ => exact oI_H (by omega) rfl rfl
  | 5, _ => exact oI_H (by omega) rfl rfl
  | 6, _ => exact oI_H (by omega) rfl rfl
  | 7, _ => exact oI_H (by omega) rfl rfl
  | k + 8, h => exact absurd h (by omega)
theorem gP_r1 {r : Nat} {v : Int32} (hr : r < 8) : oP (Hp m F L T) (some (23 + 2 * r)) 3 1 (.int v) = some (Hp m (up2 F (23 + 2 * r) 1 v) L T) := by
  match r, hr with
  | 0, _ => exact oP_H (by omega) rfl (Nat.le_of_ble_eq_true rfl) rfl
  | 1, _ => exact oP_H (by omega) rfl (Nat.le_of_ble_eq_true rfl) rfl
  | 2, _ => exact oP_H (by omega) rfl (Nat.le_of_ble_eq_true rfl) rfl
  | 3, _ => exact oP_H (by omega) rfl (Nat.le_of_ble_eq_true rfl) rfl
  | 4, _ => exact oP_H (by omega) rfl (Nat.le_of_ble_eq_true rfl) rfl
  | 5, _ => exact oP_H (by omega) rfl (Nat.le_of_ble_eq_true rfl) rfl
  | 6, _ => exact oP_H (by omega) rfl (Nat.le_of_ble_eq_true rfl) rfl
  | 7, _ => exact oP_H (by omega) rfl (Nat.le_of_ble_eq_true rfl) rfl
  | k + 8, h => exact absurd h (by omega)
theorem gI_r2 {r : Nat} (hr : r < 8) : oI (Hp m F L T) (some (23 + 2 * r)) 3 2 = some (F (23 + 2 * r) 2) := by
  match r, hr with
  | 0, _ => exact oI_H (by omega) rfl rfl
  | 1, _ => exact oI_H (by omega) rfl rfl
  | 2, _ => exact oI_H (by omega) rfl rfl
  | 3, _ => exact oI_H (by omega) rfl rfl
  | 4, _ => exact oI_H (by omega) rfl rfl
  | 5, _ => exact oI_H (by omega) rfl rfl
  | 6, _ => exact oI_H (by omega) rfl rfl
  | 7, _ => exact oI_H (by omega) rfl rfl
  | k + 8, h => exact absurd h (by omega)
theorem gP_r2 {r : Nat} {v : Int32} (hr : r < 8) : oP (Hp m F L T) (some (23 + 2 * r)) 3 2 (.int v) = some (Hp m (up2 F (23 + 2 * r) 2 v) L T) := by
  match r, hr with
  | 0, _ => exact oP_H (by omega) rfl (Nat.le_of_ble_eq_true rfl) rfl
  | 1, _ => exact oP_H (by omega) rfl (Nat.le_of_ble_eq_true rfl) rfl
  | 2, _ => exact oP_H (by omega) rfl (Nat.le_of_ble_eq_true rfl) rfl
  | 3, _ => exact oP_H (by omega) rfl (Nat.le_of_ble_eq_true rfl) rfl
  | 4, _ => exact oP_H (by omega) rfl (Nat.le_of_ble_eq_true rfl) rfl
  | 5, _ => exact oP_H (by omega) rfl (Nat.le_of_ble_eq_true rfl) rfl
  | 6, _ => exact oP_H (by omega) rfl (Nat.le_of_ble_eq_true rfl) rfl
  | 7, _ => exact oP_H (by omega) rfl (Nat.le_of_ble_eq_true rfl) rfl
  | k + 8, h => exact absurd h (by omega)
theorem gR_r {r : Nat} (hr : r < 8) : oR (Hp m F L T) (some (23 + 2 * r)) 3 3 = some (some (24 + 2 * r)) ∧ oC (Hp m F L T) (some (23 + 2 * r)) = some 3 ∧ oCk (Hp m F L T) (some (23 + 2 * r)) 3 = some () := by
  match r, hr with
  | 0, _ => exact ⟨oR_H (by omega) rfl rfl, oC_H (by omega) rfl, oCk_H (by omega) rfl⟩
  | 1, _ => exact ⟨oR_H (by omega) rfl rfl, oC_H (by omega) rfl, oCk_H (by omega) rfl⟩
  | 2, _ => exact ⟨oR_H (by omega) rfl rfl, oC_H (by omega) rfl, oCk_H (by omega) rfl⟩
  | 3, _ => exact ⟨oR_H (by omega) rfl rfl, oC_H (by omega) rfl, oCk_H (by omega) rfl⟩
  | 4, _ => exact ⟨oR_H (by omega) rfl rfl, oC_H (by omega) rfl, oCk_H (by omega) rfl⟩
  | 5, _ => exact ⟨oR_H (by omega) rfl rfl, oC_H (by omega) rfl, oCk_H (by omega) rfl⟩
  | 6, _ => exact ⟨oR_H (by omega) rfl rfl, oC_H (by omega) rfl, oCk_H (by omega) rfl⟩
  | 7, _ => exact ⟨oR_H (by omega) rfl rfl, oC_H (by omega) rfl, oCk_H (by omega) rfl⟩
  | k + 8, h => exact absurd h (by omega)
theorem gA_r {r : Nat} {i x : Int32} (hr : r < 8) : oA (Hp m F L T) (some (24 + 2 * r)) 0 i = (if i < 0 ∨ 40 ≤ i.toNatClampNeg then none else some (F (24 + 2 * r) i.toNatClampNeg)) ∧ oS (Hp m F L T) (some (24 + 2 * r)) 0 i x = (if i < 0 ∨ 40 ≤ i.toNatClampNeg then none else some (Hp m (up2 F (24 + 2 * r) i.toNatClampNeg x) L T)) := by
  match r, hr with
  | 0, _ => exact ⟨oA_H (by omega) rfl, oS_H (by omega) (fun _ => rfl)⟩
  | 1, _ => exact ⟨oA_H (by omega) rfl, oS_H (by omega) (fun _ => rfl)⟩
  | 2, _ => exact ⟨oA_H (by omega) rfl, oS_H (by omega) (fun _ => rfl)⟩
  | 3, _ => exact ⟨oA_H (by omega) rfl, oS_H (by omega) (fun _ => rfl)⟩
  | 4, _ => exact ⟨oA_H (by omega) rfl, oS_H (by omega) (fun _ => rfl)⟩
  | 5, _ => exact ⟨oA_H (by omega) rfl, oS_H (by omega) (fun _ => rfl)⟩
  | 6, _ => exact ⟨oA_H (by omega) rfl, oS_H (by omega) (fun _ => rfl)⟩
  | 7, _ => exact ⟨oA_H (by omega) rfl, oS_H (by omega) (fun _ => rfl)⟩
  | k + 8, h => exact absurd h (by omega)
theorem gQ_1 {i : Int32} : oQ (Hp m F L T) (some 1) 3 i = (if i < 0 ∨ 8 ≤ i.toNatClampNeg then none else some (rowsF i.toNatClampNeg)) := oQ_H (by omega) rfl
theorem gQ_14 {i : Int32} : oQ (Hp m F L T) (some 14) 4 i = (if i < 0 ∨ 2 ≤ i.toNatClampNeg then none else some (imgsF i.toNatClampNeg)) := oQ_H (by omega) rfl
theorem cG_th (j : Nat) (f : Nat → Int32) (g : Nat → Option Nat) (t : Nat) : cG (j + 62) f g t = .inr (t, [.int (f 0), .int (f 1)]) := rfl
theorem cG_t {k : Nat} (h : 62 ≤ k) (f : Nat → Int32) (g : Nat → Option Nat) (t : Nat) : cG k f g t = .inr (t, [.int (f 0), .int (f 1)]) := by
  obtain ⟨j, rfl⟩ : ∃ j, k = j + 62 := ⟨k - 62, by omega⟩
  rfl
theorem gT_th {k : Nat} (h : 62 ≤ k) (h2 : k < 62 + m) : oC (Hp m F L T) (some k) = some (T k) := oC_H h2 (cG_t h _ _ _)
theorem gT_0 {k : Nat} (h : 62 ≤ k) (h2 : k < 62 + m) (ht : isTh (T k) = true) : oT (Hp m F L T) (some k) 0 = some (F k 0) := by
  simp only [oT, Hp_get h2, cG_t h, ht, if_true]
  rfl
theorem gT_1 {k : Nat} (h : 62 ≤ k) (h2 : k < 62 + m) (ht : isTh (T k) = true) : oT (Hp m F L T) (some k) 1 = some (F k 1) := by
  simp only [oT, Hp_get h2, cG_t h, ht, if_true]
  rfl
end TM
def Fst0 : Nat → Nat → Int32 := fun _ _ => 0
def Fst : Nat → Nat → Int32 := up Fst0 50 (upd (upd (upd (upd (upd (upd (upd (upd (fun _ => 0) 0 (-1)) 1 (-1)) 2 (-1)) 3 (-1)) 4 (-1)) 5 (-1)) 6 (-1)) 7 (-1))
def Lst : Nat → Nat → Option Nat := fun _ _ => none
def Tst : Nat → Nat := fun _ => 0
set_option maxRecDepth 100000 in
set_option maxHeartbeats 4000000 in
theorem st_x (n : Nat) : f_X11_init (n + 20) [.inr (10, [.null, .null, .null, .null, .null, .null, .null, .int 0, .int 0])] (some 0) = some ((), (Hp 0 Fst Lst Tst).take 49) := rfl
set_option maxRecDepth 100000 in
set_option maxHeartbeats 4000000 in
theorem st_m (N : Nat) : f_X12_init N ((Hp 0 Fst Lst Tst).take 49 ++ [.inr (11, [.int 0, .int 0, .null, .null, .null, .null, .null, .null, .int 0, .int 0, .int 0, .int 0, .int 0, .int 0, .int 0, .int 0, .int 0, .null, .int 0, .int 0, .int 0, .null, .int 0, .null, .int 0, .int 0, .int 0, .null, .null, .null, .int 0])]) (some 49) = some ((), Hp 0 Fst Lst Tst) := rfl
