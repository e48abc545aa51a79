/-! the dec side: what a heap access gives (none: it can't be done) -/
def oI (A : hP) (r : Option Nat) (ci k : Nat) : Option Int32 := match r with
  | none => none
  | some p => match A[p]? with
    | some (.inr (c, fs)) => if c = ci then (match fs[k]? with
      | some (.int x) => some x
      | _ => none) else none
    | _ => none
def oR (A : hP) (r : Option Nat) (ci k : Nat) : Option (Option Nat) := match r with
  | none => none
  | some p => match A[p]? with
    | some (.inr (c, fs)) => if c = ci then (match fs[k]? with
      | some (.ref x) => some (some x)
      | some .null => some none
      | _ => none) else none
    | _ => none
/-- the same of a thing, whichever it is -/
def isTh (c : Nat) : Bool := c == 1 || c == 4 || c == 5 || c == 7 || c == 8
def oT (A : hP) (r : Option Nat) (k : Nat) : Option Int32 := match r with
  | none => none
  | some p => match A[p]? with
    | some (.inr (c, fs)) => if isTh c then (match fs[k]? with
      | some (.int x) => some x
      | _ => none) else none
    | _ => none
def oC (A : hP) (r : Option Nat) : Option Nat := match r with
  | none => none
  | some p => match A[p]? with
    | some (.inr (c, _)) => some c
    | _ => none
def oP (A : hP) (r : Option Nat) (ci k : Nat) (v : Value) : Option hP := match r with
  | none => none
  | some p => match A[p]? with
    | some (.inr (c, fs)) => if c = ci ∧ k < fs.length then some (A.set p (.inr (ci, fs.set k v))) else none
    | _ => none
def oPz (A : hP) (r : Option Nat) (ci k : Nat) (x : Int32) : Option hP := if x = 0 ∨ x = 1 then oP A r ci k (.int x) else none
def oA (A : hP) (r : Option Nat) (t : Nat) (i : Int32) : Option Int32 := match r with
  | none => none
  | some p => match A[p]? with
    | some (.inl (t', n, .inl f)) => if t' = t ∧ ¬ (i < 0 ∨ n ≤ i.toNatClampNeg) then some (f i.toNatClampNeg) else none
    | _ => none
def oQ (A : hP) (r : Option Nat) (t : Nat) (i : Int32) : Option (Option Nat) := match r with
  | none => none
  | some p => match A[p]? with
    | some (.inl (t', n, .inr (.inr (.inr (.inr f))))) => if t' = t ∧ ¬ (i < 0 ∨ n ≤ i.toNatClampNeg) then some (f i.toNatClampNeg) else none
    | _ => none
def oS (A : hP) (r : Option Nat) (t : Nat) (i x : Int32) : Option hP := match r with
  | none => none
  | some p => match A[p]? with
    | some (.inl (t', n, .inl f)) => if t' = t ∧ ¬ (i < 0 ∨ n ≤ i.toNatClampNeg) then some (A.set p (.inl (t, n, .inl (upd f i.toNatClampNeg x)))) else none
    | _ => none
def oU (A : hP) (r : Option Nat) (t : Nat) (i : Int32) (v : Option Nat) : Option hP := match r with
  | none => none
  | some p => match A[p]? with
    | some (.inl (t', n, .inr (.inr (.inr (.inr f))))) => if t' = t ∧ ¬ (i < 0 ∨ n ≤ i.toNatClampNeg) then some (A.set p (.inl (t, n, .inr (.inr (.inr (.inr (va_up f i.toNatClampNeg v))))))) else none
    | _ => none
def oN (A : hP) (r : Option Nat) (t : Nat) : Option Int32 := match r with
  | none => none
  | some p => match A[p]? with
    | some (.inl (t', n, .inl _)) => if t' = t then some (Int32.ofNat n) else none
    | _ => none
/-- System.arraycopy of int rows -/
def oK (A : hP) (r : Option Nat) (i : Int32) (q : Option Nat) (j n : Int32) : Option hP := match r, q with
  | some a, some b => match A[a]?, A[b]? with
    | some (.inl (t, m, .inl f)), some (.inl (t', m', .inl g)) =>
      if t = 0 ∧ t' = 0 ∧ ¬ i < 0 ∧ ¬ j < 0 ∧ ¬ n < 0 ∧ i.toNatClampNeg + n.toNatClampNeg ≤ m ∧ j.toNatClampNeg + n.toNatClampNeg ≤ m' then some (A.set b (.inl (0, m', .inl (va_cpy f g i.toNatClampNeg j.toNatClampNeg n.toNatClampNeg)))) else none
    | _, _ => none
  | _, _ => none
def oDv (x y : Int32) : Option Int32 := if y = 0 then none else some (x / y)
def oRm (x y : Int32) : Option Int32 := if y = 0 then none else some (x - x / y * y)
/-- a class place is an instance of another, among the things -/
def isOf (c t : Nat) : Bool := c == t || (t == 4 && (c == 1 || c == 8)) || (t == 5 && c == 7)
theorem oI_s {A : hP} {r : Option Nat} {ci k : Nat} {x : Int32} (h : oI A r ci k = some x) : ∃ p fs, r = some p ∧ A[p]? = some (.inr (ci, fs)) ∧ fs[k]? = some (.int x) := by
  unfold oI at h
  split at h
  · cases h
  · split at h
    · split at h
      · split at h
        · cases h; subst_vars; exact ⟨_, _, rfl, by assumption, by assumption⟩
        · cases h
      · cases h
    · cases h
theorem oR_s {A : hP} {r : Option Nat} {ci k : Nat} {x : Option Nat} (h : oR A r ci k = some x) : ∃ p fs, r = some p ∧ A[p]? = some (.inr (ci, fs)) ∧ fs[k]? = some (va_rf x) := by
  unfold oR at h
  split at h
  · cases h
  · split at h
    · split at h
      · split at h
        · cases h; subst_vars; exact ⟨_, _, rfl, by assumption, by assumption⟩
        · cases h; subst_vars; exact ⟨_, _, rfl, by assumption, by assumption⟩
        · cases h
      · cases h
    · cases h
theorem oT_s {A : hP} {r : Option Nat} {k : Nat} {x : Int32} (h : oT A r k = some x) : ∃ p c fs, r = some p ∧ A[p]? = some (.inr (c, fs)) ∧ isTh c = true ∧ fs[k]? = some (.int x) := by
  unfold oT at h
  split at h
  · cases h
  · split at h
    · split at h
      · split at h
        · cases h; exact ⟨_, _, _, rfl, by assumption, by assumption, by assumption⟩
        · cases h
      · cases h
    · cases h
theorem oC_s {A : hP} {r : Option Nat} {c : Nat} (h : oC A r = some c) : ∃ p fs, r = some p ∧ A[p]? = some (.inr (c, fs)) := by
  unfold oC at h
  split at h
  · cases h
  · split at h
    · cases h; exact ⟨_, _, rfl, by assumption⟩
    · cases h
theorem oP_s {A A' : hP} {r : Option Nat} {ci k : Nat} {v : Value} (h : oP A r ci k v = some A') : ∃ p fs, r = some p ∧ A[p]? = some (.inr (ci, fs)) ∧ k < fs.length ∧ A' = A.set p (.inr (ci, fs.set k v)) := by
  unfold oP at h
  split at h
  · cases h
  · split at h
    · split at h
      · rename_i h2 h3
        obtain ⟨rfl, h4⟩ := h3
        cases h; exact ⟨_, _, rfl, h2, h4, rfl⟩
      · cases h
    · cases h
theorem oA_s {A : hP} {r : Option Nat} {t : Nat} {i x : Int32} (h : oA A r t i = some x) : ∃ p n f, r = some p ∧ A[p]? = some (.inl (t, n, .inl f)) ∧ vp_in i n ∧ x = f i.toNatClampNeg := by
  unfold oA at h
  split at h
  · cases h
  · split at h
    · split at h
      · rename_i h2 h3
        obtain ⟨rfl, h4⟩ := h3
        cases h; exact ⟨_, _, _, rfl, h2, h4, rfl⟩
      · cases h
    · cases h
theorem oQ_s {A : hP} {r : Option Nat} {t : Nat} {i : Int32} {x : Option Nat} (h : oQ A r t i = some x) : ∃ p n f, r = some p ∧ A[p]? = some (.inl (t, n, .inr (.inr (.inr (.inr f))))) ∧ vp_in i n ∧ x = f i.toNatClampNeg := by
  unfold oQ at h
  split at h
  · cases h
  · split at h
    · split at h
      · rename_i h2 h3
        obtain ⟨rfl, h4⟩ := h3
        cases h; exact ⟨_, _, _, rfl, h2, h4, rfl⟩
      · cases h
    · cases h
theorem oS_s {A A' : hP} {r : Option Nat} {t : Nat} {i x : Int32} (h : oS A r t i x = some A') : ∃ p n f, r = some p ∧ A[p]? = some (.inl (t, n, .inl f)) ∧ vp_in i n ∧ A' = A.set p (.inl (t, n, .inl (upd f i.toNatClampNeg x))) := by
  unfold oS at h
  split at h
  · cases h
  · split at h
    · split at h
      · rename_i h2 h3
        obtain ⟨rfl, h4⟩ := h3
        cases h; exact ⟨_, _, _, rfl, h2, h4, rfl⟩
      · cases h
    · cases h
theorem oU_s {A A' : hP} {r v : Option Nat} {t : Nat} {i : Int32} (h : oU A r t i v = some A') : ∃ p n f, r = some p ∧ A[p]? = some (.inl (t, n, .inr (.inr (.inr (.inr f))))) ∧ vp_in i n ∧ A' = A.set p (.inl (t, n, .inr (.inr (.inr (.inr (va_up f i.toNatClampNeg v)))))) := by
  unfold oU at h
  split at h
  · cases h
  · split at h
    · split at h
      · rename_i h2 h3
        obtain ⟨rfl, h4⟩ := h3
        cases h; exact ⟨_, _, _, rfl, h2, h4, rfl⟩
      · cases h
    · cases h
theorem oN_s {A : hP} {r : Option Nat} {t : Nat} {x : Int32} (h : oN A r t = some x) : ∃ p n f, r = some p ∧ A[p]? = some (.inl (t, n, .inl f)) ∧ x = Int32.ofNat n := by
  unfold oN at h
  split at h
  · cases h
  · split at h
    · split at h
      · rename_i h2 h3
        subst h3
        cases h; exact ⟨_, _, _, rfl, h2, rfl⟩
      · cases h
    · cases h
theorem oK_s {A A' : hP} {r q : Option Nat} {i j n : Int32} (h : oK A r i q j n = some A') : ∃ a b m m' f g, r = some a ∧ q = some b ∧ A[a]? = some (.inl (0, m, .inl f)) ∧ A[b]? = some (.inl (0, m', .inl g)) ∧ ¬ i < 0 ∧ ¬ j < 0 ∧ ¬ n < 0 ∧ i.toNatClampNeg + n.toNatClampNeg ≤ m ∧ j.toNatClampNeg + n.toNatClampNeg ≤ m' ∧ A' = A.set b (.inl (0, m', .inl (va_cpy f g i.toNatClampNeg j.toNatClampNeg n.toNatClampNeg))) := by
  unfold oK at h
  split at h
  · split at h
    · split at h
      · rename_i h1 h2 h3
        obtain ⟨rfl, rfl, h4, h5, h6, h7, h8⟩ := h3
        cases h; exact ⟨_, _, _, _, _, _, rfl, rfl, h1, h2, h4, h5, h6, h7, h8, rfl⟩
      · cases h
    · cases h
  · cases h
theorem bd {α β : Type} {o : Option α} {f : α → Option β} {r : β} (h : o.bind f = some r) : ∃ x, o = some x ∧ f x = some r := by
  cases o with
  | none => cases h
  | some x => exact ⟨x, rfl, h⟩
section AWR
variable {l : Launch} {M : gM} {R : Room} {G : gS} {Qf : Array Value → State → List Frame → State → Prop} {A : hP} {cs ss pc : Nat} {ls : List (Option Value)} {st : List Value} {α β : Type} {res : β}
-- locals
theorem AW_iload {i : Nat} {x : Int32} (hd : decode M.2.1 pc = .ok (.iload i, 2)) (hl : ls[i]? = some (some (.int x))) (k : AW l M R G Qf A cs ss (pc + 2) ls (.int x :: st)) : AW l M R G Qf A cs ss pc ls st := by
  intro p e s m args below meth c H locs la hF hM
  exact lv_iload hF.1.1 hF.1.2.1 hd (hM.2.2.2.2.2.2 _ _ hl) (k p e s m args below meth c H locs la hF hM)
theorem AW_iload_n {i : Fin 4} {x : Int32} (hd : decode M.2.1 pc = .ok (.iload_n i, 1)) (hl : ls[(i : Nat)]? = some (some (.int x))) (k : AW l M R G Qf A cs ss (pc + 1) ls (.int x :: st)) : AW l M R G Qf A cs ss pc ls st := by
  intro p e s m args below meth c H locs la hF hM
  exact lv_iload_n hF.1.1 hF.1.2.1 hd rfl (hM.2.2.2.2.2.2 _ _ hl) (k p e s m args below meth c H locs la hF hM)
theorem AW_lload {i : Nat} {x : Int64} (hd : decode M.2.1 pc = .ok (.lload i, 2)) (hl : ls[i]? = some (some (.long x))) (k : AW l M R G Qf A cs ss (pc + 2) ls (.long x :: st)) : AW l M R G Qf A cs ss pc ls st := by
  intro p e s m args below meth c H locs la hF hM
  exact lv_lload hF.1.1 hF.1.2.1 hd (hM.2.2.2.2.2.2 _ _ hl) (k p e s m args below meth c H locs la hF hM)
theorem AW_lload_n {i : Fin 4} {x : Int64} (hd : decode M.2.1 pc = .ok (.lload_n i, 1)) (hl : ls[(i : Nat)]? = some (some (.long x))) (k : AW l M R G Qf A cs ss (pc + 1) ls (.long x :: st)) : AW l M R G Qf A cs ss pc ls st := by
  intro p e s m args below meth c H locs la hF hM
  exact lv_lload_n hF.1.1 hF.1.2.1 hd rfl (hM.2.2.2.2.2.2 _ _ hl) (k p e s m args below meth c H locs la hF hM)
theorem AW_aload {i : Nat} {x : Option Nat} (hd : decode M.2.1 pc = .ok (.aload i, 2)) (hl : ls[i]? = some (some (va_rf x))) (k : AW l M R G Qf A cs ss (pc + 2) ls (va_rf x :: st)) : AW l M R G Qf A cs ss pc ls st := by
  intro p e s m args below meth c H locs la hF hM
  have h1 := hM.2.2.2.2.2.2 _ _ hl
  have h2 := k p e s m args below meth c H locs la hF hM
  cases x with
  | none => exact lv_aloadN hF.1.1 hF.1.2.1 hd h1 h2
  | some a => exact lv_aload hF.1.1 hF.1.2.1 hd h1 h2
theorem AW_aload_n {i : Fin 4} {x : Option Nat} (hd : decode M.2.1 pc = .ok (.aload_n i, 1)) (hl : ls[(i : Nat)]? = some (some (va_rf x))) (k : AW l M R G Qf A cs ss (pc + 1) ls (va_rf x :: st)) : AW l M R G Qf A cs ss pc ls st := by
  intro p e s m args below meth c H locs la hF hM
  have h1 := hM.2.2.2.2.2.2 _ _ hl
  have h2 := k p e s m args below meth c H locs la hF hM
  cases x with
  | none => exact lv_aload_nN hF.1.1 hF.1.2.1 hd rfl h1 h2
  | some a => exact lv_aload_n hF.1.1 hF.1.2.1 hd rfl h1 h2
/-- the place ahead holds no long -/
def g_c1 (ls : List (Option Value)) (i : Nat) : Prop := ∀ (j : Nat) (w : Value), j + 1 = i → ls[j]? = some (some w) → w.category = 1
theorem c1_0 {ls : List (Option Value)} : g_c1 ls 0 := fun j w h => by omega
theorem c1_n {ls : List (Option Value)} {i : Nat} (h : ls[i]? = some none) : g_c1 ls (i + 1) := fun j w hj hw => by
  cases (show j = i by omega); rw [h] at hw; cases hw
theorem c1_i {ls : List (Option Value)} {i : Nat} {x : Int32} (h : ls[i]? = some (some (.int x))) : g_c1 ls (i + 1) := fun j w hj hw => by
  cases (show j = i by omega); rw [h] at hw; cases hw; rfl
theorem c1_r {ls : List (Option Value)} {i : Nat} {x : Option Nat} (h : ls[i]? = some (some (va_rf x))) : g_c1 ls (i + 1) := fun j w hj hw => by
  cases (show j = i by omega); rw [h] at hw; cases hw; exact g_cat_rf x
/-- the listed locals, as pairs -/
def g_pr (G : gS) (ls : List (Option Value)) : List (Nat × Value) := (List.range ls.length).filterMap (fun i => match ls[i]? with
  | some (some v) => some (i, g_em G v)
  | _ => none)
theorem g_pr_mem {G : gS} {ls : List (Option Value)} {i : Nat} {v : Value} (h : ls[i]? = some (some v)) : (i, g_em G v) ∈ g_pr G ls := by
  unfold g_pr
  refine List.mem_filterMap.mpr ⟨i, List.mem_range.mpr (List.getElem?_eq_some_iff.mp h).1, ?_⟩
  simp [h]
theorem g_pr_of {G : gS} {ls : List (Option Value)} {q : Nat × Value} (h : q ∈ g_pr G ls) : ∃ v, ls[q.1]? = some (some v) ∧ q.2 = g_em G v := by
  unfold g_pr at h
  obtain ⟨i, -, h⟩ := List.mem_filterMap.mp h
  split at h
  · cases h; exact ⟨_, by assumption, rfl⟩
  · cases h
theorem g_L.has {G : gS} {nL : Nat} {ls : List (Option Value)} {la : Array Slot} (h : g_L G nL ls la) : lv_has la nL (g_pr G ls) :=
  ⟨h.1, h.2.1, fun q hq => by obtain ⟨v, h1, h2⟩ := g_pr_of hq; rw [h2]; exact h.2.2 _ _ h1⟩
theorem g_L.st1 {G : gS} {nL i : Nat} {v : Value} {ls : List (Option Value)} {la : Array Slot} (hc : g_c1 ls i) (h : lv_has la nL ((i, g_em G v) :: (g_pr G ls).filter (fun q => !(q.1 == i) && !(q.1 + 1 == i && q.2.category == 2)))) : g_L G nL (ls.set i (some v)) la := by
  refine ⟨h.1, h.2.1, fun j w hj => ?_⟩
  by_cases hij : i = j
  · subst hij
    rw [List.getElem?_set] at hj
    split at hj
    · split at hj
      · cases hj; exact h.2.2 (i, g_em G v) List.mem_cons_self
      · cases hj
    · rename_i h2; exact absurd rfl h2
  · rw [List.getElem?_set_ne hij] at hj
    refine h.2.2 (j, g_em G w) (List.mem_cons_of_mem _ (List.mem_filter.mpr ⟨g_pr_mem hj, ?_⟩))
    have h3 : (j == i) = false := by simp; exact fun e => hij e.symm
    by_cases h4 : j + 1 = i
    · have h5 := hc j w h4 hj
      simp [h3, g_em_cat, h5]
    · simp [h3, h4]
theorem g_L.st2 {G : gS} {nL i : Nat} {v : Value} {ls : List (Option Value)} {la : Array Slot} (hc : g_c1 ls i) (h : lv_has la nL ((i, g_em G v) :: (g_pr G ls).filter (fun q => !(q.1 == i) && (!(q.1 == i + 1) && !(q.1 + 1 == i && q.2.category == 2))))) : g_L G nL ((ls.set i (some v)).set (i + 1) none) la := by
  refine ⟨h.1, h.2.1, fun j w hj => ?_⟩
  by_cases hij1 : i + 1 = j
  · subst hij1
    rw [List.getElem?_set] at hj
    split at hj
    · split at hj
      · cases hj
      · cases hj
    · rename_i h2; exact absurd rfl h2
  rw [List.getElem?_set_ne hij1] at hj
  by_cases hij : i = j
  · subst hij
    rw [List.getElem?_set] at hj
    split at hj
    · split at hj
      · cases hj; exact h.2.2 (i, g_em G v) List.mem_cons_self
      · cases hj
    · rename_i h2; exact absurd rfl h2
  · rw [List.getElem?_set_ne hij] at hj
    refine h.2.2 (j, g_em G w) (List.mem_cons_of_mem _ (List.mem_filter.mpr ⟨g_pr_mem hj, ?_⟩))
    have h3 : (j == i) = false := by simp; exact fun e => hij e.symm
    have h6 : (j == i + 1) = false := by simp; exact fun e => hij1 e.symm
    by_cases h4 : j + 1 = i
    · have h5 := hc j w h4 hj
      simp [h3, h6, g_em_cat, h5]
    · simp [h3, h6, h4]
theorem AW_istore {i : Nat} {x : Int32} {ls' : List (Option Value)} (hd : decode M.2.1 pc = .ok (.istore i, 2)) (hc : g_c1 ls i) (hn : i < M.2.2.1) (hl : ls.set i (some (.int x)) = ls') (k : AW l M R G Qf A cs ss (pc + 2) ls' st) : AW l M R G Qf A cs ss pc ls (.int x :: st) := by
  intro p e s m args below meth c H locs la hF hM
  subst hl
  exact lv_istore hF.1.1 hF.1.2.1 hd hM.2.2.2.2.has hn rfl fun la' h' => k p e s m args below meth c H locs la' hF ⟨hM.1, hM.2.1, hM.2.2.1, hM.2.2.2.1, g_L.st1 (v := .int x) hc h'⟩
theorem AW_istore_n {i : Fin 4} {x : Int32} {ls' : List (Option Value)} (hd : decode M.2.1 pc = .ok (.istore_n i, 1)) (hc : g_c1 ls (i : Nat)) (hn : (i : Nat) < M.2.2.1) (hl : ls.set (i : Nat) (some (.int x)) = ls') (k : AW l M R G Qf A cs ss (pc + 1) ls' st) : AW l M R G Qf A cs ss pc ls (.int x :: st) := by
  intro p e s m args below meth c H locs la hF hM
  subst hl
  exact lv_istore_n hF.1.1 hF.1.2.1 hd rfl hM.2.2.2.2.has hn rfl fun la' h' => k p e s m args below meth c H locs la' hF ⟨hM.1, hM.2.1, hM.2.2.1, hM.2.2.2.1, g_L.st1 (v := .int x) hc h'⟩
theorem AW_lstore_n {i : Fin 4} {x : Int64} {ls' : List (Option Value)} (hd : decode M.2.1 pc = .ok (.lstore_n i, 1)) (hc : g_c1 ls (i : Nat)) (hn : (i : Nat) + 1 < M.2.2.1) (hl : (ls.set (i : Nat) (some (.long x))).set ((i : Nat) + 1) none = ls') (k : AW l M R G Qf A cs ss (pc + 1) ls' st) : AW l M R G Qf A cs ss pc ls (.long x :: st) := by
  intro p e s m args below meth c H locs la hF hM
  subst hl
  exact lv_lstore_n hF.1.1 hF.1.2.1 hd rfl hM.2.2.2.2.has hn rfl fun la' h' => k p e s m args below meth c H locs la' hF ⟨hM.1, hM.2.1, hM.2.2.1, hM.2.2.2.1, g_L.st2 (v := .long x) hc h'⟩
theorem AW_astore {i : Nat} {x : Option Nat} {ls' : List (Option Value)} (hd : decode M.2.1 pc = .ok (.astore i, 2)) (hc : g_c1 ls i) (hn : i < M.2.2.1) (hl : ls.set i (some (va_rf x)) = ls') (k : AW l M R G Qf A cs ss (pc + 2) ls' st) : AW l M R G Qf A cs ss pc ls (va_rf x :: st) := by
  intro p e s m args below meth c H locs la hF hM
  subst hl
  cases x with
  | none => exact lv_astoreN hF.1.1 hF.1.2.1 hd hM.2.2.2.2.has hn rfl fun la' h' => k p e s m args below meth c H locs la' hF ⟨hM.1, hM.2.1, hM.2.2.1, hM.2.2.2.1, g_L.st1 (v := va_rf none) hc h'⟩
  | some a => exact lv_astore hF.1.1 hF.1.2.1 hd hM.2.2.2.2.has hn rfl fun la' h' => k p e s m args below meth c H locs la' hF ⟨hM.1, hM.2.1, hM.2.2.1, hM.2.2.2.1, g_L.st1 (v := va_rf (some a)) hc h'⟩
theorem AW_astore_n {i : Fin 4} {x : Option Nat} {ls' : List (Option Value)} (hd : decode M.2.1 pc = .ok (.astore_n i, 1)) (hc : g_c1 ls (i : Nat)) (hn : (i : Nat) < M.2.2.1) (hl : ls.set (i : Nat) (some (va_rf x)) = ls') (k : AW l M R G Qf A cs ss (pc + 1) ls' st) : AW l M R G Qf A cs ss pc ls (va_rf x :: st) := by
  intro p e s m args below meth c H locs la hF hM
  subst hl
  cases x with
  | none => exact lv_astore_nN hF.1.1 hF.1.2.1 hd rfl hM.2.2.2.2.has hn rfl fun la' h' => k p e s m args below meth c H locs la' hF ⟨hM.1, hM.2.1, hM.2.2.1, hM.2.2.2.1, g_L.st1 (v := va_rf none) hc h'⟩
  | some a => exact lv_astore_n hF.1.1 hF.1.2.1 hd rfl hM.2.2.2.2.has hn rfl fun la' h' => k p e s m args below meth c H locs la' hF ⟨hM.1, hM.2.1, hM.2.2.1, hM.2.2.2.1, g_L.st1 (v := va_rf (some a)) hc h'⟩
theorem AW_iinc {i : Nat} {n : Int} {x v : Int32} {ls' : List (Option Value)} (hd : decode M.2.1 pc = .ok (.iinc i n, 3)) (hx : ls[i]? = some (some (.int x))) (hc : g_c1 ls i) (hn : i < M.2.2.1) (hv : Int32.ofInt n = v) (hl : ls.set i (some (.int (x + v))) = ls') (k : AW l M R G Qf A cs ss (pc + 3) ls' st) : AW l M R G Qf A cs ss pc ls st := by
  intro p e s m args below meth c H locs la hF hM
  subst hl
  subst hv
  obtain ⟨j, hj⟩ := List.getElem?_of_mem (g_pr_mem (G := G) hx)
  exact lv_iinc hF.1.1 hF.1.2.1 hd hM.2.2.2.2.has hj rfl hn rfl fun la' h' => k p e s m args below meth c H locs la' hF ⟨hM.1, hM.2.1, hM.2.2.1, hM.2.2.2.1, g_L.st1 (v := .int (x + Int32.ofInt n)) hc h'⟩
/-- fewer locals are listed -/
theorem AW_fewer {ls' : List (Option Value)} (h : ∀ (i : Nat) (v : Value), ls'[i]? = some (some v) → ls[i]? = some (some v)) (k : AW l M R G Qf A cs ss pc ls' st) : AW l M R G Qf A cs ss pc ls st := by
  intro p e s m args below meth c H locs la hF hM
  exact k p e s m args below meth c H locs la hF ⟨hM.1, hM.2.1, hM.2.2.1, hM.2.2.2.1, hM.2.2.2.2.1, hM.2.2.2.2.2.1, fun i v hv => hM.2.2.2.2.2.2 i v (h i v hv)⟩
theorem AW_dup {v : Value} (hd : decode M.2.1 pc = .ok (.dup, 1)) (hv : v.category = 1) (k : AW l M R G Qf A cs ss (pc + 1) ls (v :: v :: st)) : AW l M R G Qf A cs ss pc ls (v :: st) := by
  intro p e s m args below meth c H locs la hF hM
  exact lv_dup hF.1.1 hF.1.2.1 hd (by rw [g_em_cat]; exact hv) (k p e s m args below meth c H locs la hF hM)
theorem AW_dup2 {v w : Value} (hd : decode M.2.1 pc = .ok (.dup2, 1)) (hv : v.category = 1) (hw : w.category = 1) (k : AW l M R G Qf A cs ss (pc + 1) ls (v :: w :: v :: w :: st)) : AW l M R G Qf A cs ss pc ls (v :: w :: st) := by
  intro p e s m args below meth c H locs la hF hM
  exact lv_dup2_11 hF.1.1 hF.1.2.1 hd (by rw [g_em_cat]; exact hv) (by rw [g_em_cat]; exact hw) (k p e s m args below meth c H locs la hF hM)
theorem AW_pop {v : Value} (hd : decode M.2.1 pc = .ok (.pop, 1)) (hv : v.category = 1) (k : AW l M R G Qf A cs ss (pc + 1) ls st) : AW l M R G Qf A cs ss pc ls (v :: st) := by
  intro p e s m args below meth c H locs la hF hM
  exact lv_pop hF.1.1 hF.1.2.1 hd (by rw [g_em_cat]; exact hv) (k p e s m args below meth c H locs la hF hM)
theorem AW_goto {off : Int} {tgt : Nat} (hd : decode M.2.1 pc = .ok (.goto off, 3)) (ht : (pc : Int) + off = (tgt : Int)) (k : AW l M R G Qf A cs ss tgt ls st) : AW l M R G Qf A cs ss pc ls st := by
  intro p e s m args below meth c H locs la hF hM
  exact lv_goto hF.1.1 hF.1.2.1 hd ht (k p e s m args below meth c H locs la hF hM)
theorem AW_ldc {i : Nat} {v : Int32} (hd : decode M.2.1 pc = .ok (.ldc i, 2)) (hw : Cond.constant M.1.cls i v ∈ M.2.2.2.2) (k : AW l M R G Qf A cs ss (pc + 2) ls (.int v :: st)) : AW l M R G Qf A cs ss pc ls st := by
  intro p e s m args below meth c H locs la hF hM
  exact lv_ldc hF.1.1 hF.1.2.1 hF.1.2.2.2.2.1 (hF.1.2.2.2.2.2.1 _ hw) hd (k p e s m args below meth c H locs la hF hM)
theorem AW_ldcw {i : Nat} {v : Int32} (hd : decode M.2.1 pc = .ok (.ldc_w i, 3)) (hw : Cond.constant M.1.cls i v ∈ M.2.2.2.2) (k : AW l M R G Qf A cs ss (pc + 3) ls (.int v :: st)) : AW l M R G Qf A cs ss pc ls st := by
  intro p e s m args below meth c H locs la hF hM
  exact lv_ldcw hF.1.1 hF.1.2.1 hF.1.2.2.2.2.1 (hF.1.2.2.2.2.2.1 _ hw) hd (k p e s m args below meth c H locs la hF hM)
theorem AW_ldc2 {i : Nat} {v : Int64} (hd : decode M.2.1 pc = .ok (.ldc2_w i, 3)) (hw : Cond.constantLong M.1.cls i v ∈ M.2.2.2.2) (k : AW l M R G Qf A cs ss (pc + 3) ls (.long v :: st)) : AW l M R G Qf A cs ss pc ls st := by
  intro p e s m args below meth c H locs la hF hM
  exact lv_ldc2 hF.1.1 hF.1.2.1 hF.1.2.2.2.2.1 (hF.1.2.2.2.2.2.1 _ hw) hd (k p e s m args below meth c H locs la hF hM)
/-- a String constant of the tape -/
theorem AW_ldcs {i j : Nat} {tx : String} (hcl : M.1.cls = RX6) (hd : decode M.2.1 pc = .ok (.ldc i, 2)) (hj : g_str[j]? = some (i, tx)) (k : AW l M R G Qf A cs ss (pc + 2) ls (va_rf (some (1000000 + j)) :: st)) : AW l M R G Qf A cs ss pc ls st := by
  intro p e s m args below meth c H locs la hF hM
  have h1 := hF.2.2.1.2.2.2.2.2.1 j (i, tx) hj
  refine va_ldcS (tx := tx) hF.1.1 hF.1.2.1 hF.1.2.2.2.2.1 (by rw [hcl]; exact h1) hd ?_
  have h2 := k p e s m args below meth c H locs la hF hM
  have h3 : g_em G (va_rf (some (1000000 + j))) = .ref (G.2.2.1 j) := by
    show Value.ref (g_ad G (1000000 + j)) = _
    unfold g_ad
    rw [if_neg (by omega), Nat.add_sub_cancel_left]
  rw [List.map_cons, h3] at h2
  exact h2
-- branches
theorem AW_if_eq {x : Int32} {T F : Option β} {off : Int} {tgt : Nat} (hd : decode M.2.1 pc = .ok (.ifCond .eq off, 3)) (ht : (pc : Int) + off = (tgt : Int)) (h : (if x = 0 then T else F) = some res) (kt : x = 0 → T = some res → AW l M R G Qf A cs ss tgt ls st) (kf : ¬ x = 0 → F = some res → AW l M R G Qf A cs ss (pc + 3) ls st) : AW l M R G Qf A cs ss pc ls (.int x :: st) := by
  intro p e s m args below meth c H locs la hF hM
  exact lv_if_eq hF.1.1 hF.1.2.1 hd ht (fun hp => kt hp (by rw [if_pos hp] at h; exact h) p e s m args below meth c H locs la hF hM) (fun hp => kf hp (by rw [if_neg hp] at h; exact h) p e s m args below meth c H locs la hF hM)
theorem AW_icmp_eq {x y : Int32} {T F : Option β} {off : Int} {tgt : Nat} (hd : decode M.2.1 pc = .ok (.if_icmp .eq off, 3)) (ht : (pc : Int) + off = (tgt : Int)) (h : (if x = y then T else F) = some res) (kt : x = y → T = some res → AW l M R G Qf A cs ss tgt ls st) (kf : ¬ x = y → F = some res → AW l M R G Qf A cs ss (pc + 3) ls st) : AW l M R G Qf A cs ss pc ls (.int y :: .int x :: st) := by
  intro p e s m args below meth c H locs la hF hM
  exact lv_icmp_eq hF.1.1 hF.1.2.1 hd ht (fun hp => kt hp (by rw [if_pos hp] at h; exact h) p e s m args below meth c H locs la hF hM) (fun hp => kf hp (by rw [if_neg hp] at h; exact h) p e s m args below meth c H locs la hF hM)
theorem AW_if_ne {x : Int32} {T F : Option β} {off : Int} {tgt : Nat} (hd : decode M.2.1 pc = .ok (.ifCond .ne off, 3)) (ht : (pc : Int) + off = (tgt : Int)) (h : (if x = 0 then F else T) = some res) (kt : ¬ x = 0 → T = some res → AW l M R G Qf A cs ss tgt ls st) (kf : x = 0 → F = some res → AW l M R G Qf A cs ss (pc + 3) ls st) : AW l M R G Qf A cs ss pc ls (.int x :: st) := by
  intro p e s m args below meth c H locs la hF hM
  exact lv_if_ne hF.1.1 hF.1.2.1 hd ht (fun hp => kt hp (by rw [if_neg hp] at h; exact h) p e s m args below meth c H locs la hF hM) (fun hp => kf hp (by rw [if_pos hp] at h; exact h) p e s m args below meth c H locs la hF hM)
theorem AW_icmp_ne {x y : Int32} {T F : Option β} {off : Int} {tgt : Nat} (hd : decode M.2.1 pc = .ok (.if_icmp .ne off, 3)) (ht : (pc : Int) + off = (tgt : Int)) (h : (if x = y then F else T) = some res) (kt : ¬ x = y → T = some res → AW l M R G Qf A cs ss tgt ls st) (kf : x = y → F = some res → AW l M R G Qf A cs ss (pc + 3) ls st) : AW l M R G Qf A cs ss pc ls (.int y :: .int x :: st) := by
  intro p e s m args below meth c H locs la hF hM
  exact lv_icmp_ne hF.1.1 hF.1.2.1 hd ht (fun hp => kt hp (by rw [if_neg hp] at h; exact h) p e s m args below meth c H locs la hF hM) (fun hp => kf hp (by rw [if_pos hp] at h; exact h) p e s m args below meth c H locs la hF hM)
theorem AW_if_lt {x : Int32} {T F : Option β} {off : Int} {tgt : Nat} (hd : decode M.2.1 pc = .ok (.ifCond .lt off, 3)) (ht : (pc : Int) + off = (tgt : Int)) (h : (if x < 0 then T else F) = some res) (kt : x < 0 → T = some res → AW l M R G Qf A cs ss tgt ls st) (kf : ¬ x < 0 → F = some res → AW l M R G Qf A cs ss (pc + 3) ls st) : AW l M R G Qf A cs ss pc ls (.int x :: st) := by
  intro p e s m args below meth c H locs la hF hM
  exact lv_if_lt hF.1.1 hF.1.2.1 hd ht (fun hp => kt hp (by rw [if_pos hp] at h; exact h) p e s m args below meth c H locs la hF hM) (fun hp => kf hp (by rw [if_neg hp] at h; exact h) p e s m args below meth c H locs la hF hM)
theorem AW_icmp_lt {x y : Int32} {T F : Option β} {off : Int} {tgt : Nat} (hd : decode M.2.1 pc = .ok (.if_icmp .lt off, 3)) (ht : (pc : Int) + off = (tgt : Int)) (h : (if x < y then T else F) = some res) (kt : x < y → T = some res → AW l M R G Qf A cs ss tgt ls st) (kf : ¬ x < y → F = some res → AW l M R G Qf A cs ss (pc + 3) ls st) : AW l M R G Qf A cs ss pc ls (.int y :: .int x :: st) := by
  intro p e s m args below meth c H locs la hF hM
  exact lv_icmp_lt hF.1.1 hF.1.2.1 hd ht (fun hp => kt hp (by rw [if_pos hp] at h; exact h) p e s m args below meth c H locs la hF hM) (fun hp => kf hp (by rw [if_neg hp] at h; exact h) p e s m args below meth c H locs la hF hM)
theorem AW_if_ge {x : Int32} {T F : Option β} {off : Int} {tgt : Nat} (hd : decode M.2.1 pc = .ok (.ifCond .ge off, 3)) (ht : (pc : Int) + off = (tgt : Int)) (h : (if 0 ≤ x then T else F) = some res) (kt : 0 ≤ x → T = some res → AW l M R G Qf A cs ss tgt ls st) (kf : ¬ 0 ≤ x → F = some res → AW l M R G Qf A cs ss (pc + 3) ls st) : AW l M R G Qf A cs ss pc ls (.int x :: st) := by
  intro p e s m args below meth c H locs la hF hM
  exact lv_if_ge hF.1.1 hF.1.2.1 hd ht (fun hp => kt hp (by rw [if_pos hp] at h; exact h) p e s m args below meth c H locs la hF hM) (fun hp => kf hp (by rw [if_neg hp] at h; exact h) p e s m args below meth c H locs la hF hM)
theorem AW_icmp_ge {x y : Int32} {T F : Option β} {off : Int} {tgt : Nat} (hd : decode M.2.1 pc = .ok (.if_icmp .ge off, 3)) (ht : (pc : Int) + off = (tgt : Int)) (h : (if y ≤ x then T else F) = some res) (kt : y ≤ x → T = some res → AW l M R G Qf A cs ss tgt ls st) (kf : ¬ y ≤ x → F = some res → AW l M R G Qf A cs ss (pc + 3) ls st) : AW l M R G Qf A cs ss pc ls (.int y :: .int x :: st) := by
  intro p e s m args below meth c H locs la hF hM
  exact lv_icmp_ge hF.1.1 hF.1.2.1 hd ht (fun hp => kt hp (by rw [if_pos hp] at h; exact h) p e s m args below meth c H locs la hF hM) (fun hp => kf hp (by rw [if_neg hp] at h; exact h) p e s m args below meth c H locs la hF hM)
theorem AW_if_gt {x : Int32} {T F : Option β} {off : Int} {tgt : Nat} (hd : decode M.2.1 pc = .ok (.ifCond .gt off, 3)) (ht : (pc : Int) + off = (tgt : Int)) (h : (if 0 < x then T else F) = some res) (kt : 0 < x → T = some res → AW l M R G Qf A cs ss tgt ls st) (kf : ¬ 0 < x → F = some res → AW l M R G Qf A cs ss (pc + 3) ls st) : AW l M R G Qf A cs ss pc ls (.int x :: st) := by
  intro p e s m args below meth c H locs la hF hM
  exact lv_if_gt hF.1.1 hF.1.2.1 hd ht (fun hp => kt hp (by rw [if_pos hp] at h; exact h) p e s m args below meth c H locs la hF hM) (fun hp => kf hp (by rw [if_neg hp] at h; exact h) p e s m args below meth c H locs la hF hM)
theorem AW_icmp_gt {x y : Int32} {T F : Option β} {off : Int} {tgt : Nat} (hd : decode M.2.1 pc = .ok (.if_icmp .gt off, 3)) (ht : (pc : Int) + off = (tgt : Int)) (h : (if y < x then T else F) = some res) (kt : y < x → T = some res → AW l M R G Qf A cs ss tgt ls st) (kf : ¬ y < x → F = some res → AW l M R G Qf A cs ss (pc + 3) ls st) : AW l M R G Qf A cs ss pc ls (.int y :: .int x :: st) := by
  intro p e s m args below meth c H locs la hF hM
  exact lv_icmp_gt hF.1.1 hF.1.2.1 hd ht (fun hp => kt hp (by rw [if_pos hp] at h; exact h) p e s m args below meth c H locs la hF hM) (fun hp => kf hp (by rw [if_neg hp] at h; exact h) p e s m args below meth c H locs la hF hM)
theorem AW_if_le {x : Int32} {T F : Option β} {off : Int} {tgt : Nat} (hd : decode M.2.1 pc = .ok (.ifCond .le off, 3)) (ht : (pc : Int) + off = (tgt : Int)) (h : (if x ≤ 0 then T else F) = some res) (kt : x ≤ 0 → T = some res → AW l M R G Qf A cs ss tgt ls st) (kf : ¬ x ≤ 0 → F = some res → AW l M R G Qf A cs ss (pc + 3) ls st) : AW l M R G Qf A cs ss pc ls (.int x :: st) := by
  intro p e s m args below meth c H locs la hF hM
  exact lv_if_le hF.1.1 hF.1.2.1 hd ht (fun hp => kt hp (by rw [if_pos hp] at h; exact h) p e s m args below meth c H locs la hF hM) (fun hp => kf hp (by rw [if_neg hp] at h; exact h) p e s m args below meth c H locs la hF hM)
theorem AW_icmp_le {x y : Int32} {T F : Option β} {off : Int} {tgt : Nat} (hd : decode M.2.1 pc = .ok (.if_icmp .le off, 3)) (ht : (pc : Int) + off = (tgt : Int)) (h : (if x ≤ y then T else F) = some res) (kt : x ≤ y → T = some res → AW l M R G Qf A cs ss tgt ls st) (kf : ¬ x ≤ y → F = some res → AW l M R G Qf A cs ss (pc + 3) ls st) : AW l M R G Qf A cs ss pc ls (.int y :: .int x :: st) := by
  intro p e s m args below meth c H locs la hF hM
  exact lv_icmp_le hF.1.1 hF.1.2.1 hd ht (fun hp => kt hp (by rw [if_pos hp] at h; exact h) p e s m args below meth c H locs la hF hM) (fun hp => kf hp (by rw [if_neg hp] at h; exact h) p e s m args below meth c H locs la hF hM)
theorem AW_ifnull {x : Option Nat} {T F : Option β} {off : Int} {tgt : Nat} (hd : decode M.2.1 pc = .ok (.ifnull off, 3)) (ht : (pc : Int) + off = (tgt : Int)) (h : (if x = none then T else F) = some res) (kt : x = none → T = some res → AW l M R G Qf A cs ss tgt ls st) (kf : ¬ x = none → F = some res → AW l M R G Qf A cs ss (pc + 3) ls st) : AW l M R G Qf A cs ss pc ls (va_rf x :: st) := by
  intro p e s m args below meth c H locs la hF hM
  cases x with
  | none => exact lv_ifnullN hF.1.1 hF.1.2.1 hd ht (kt rfl (by simpa using h) p e s m args below meth c H locs la hF hM)
  | some a => exact lv_ifnull hF.1.1 hF.1.2.1 hd (kf (by simp) (by simpa using h) p e s m args below meth c H locs la hF hM)
theorem AW_ifnonnull {x : Option Nat} {T F : Option β} {off : Int} {tgt : Nat} (hd : decode M.2.1 pc = .ok (.ifnonnull off, 3)) (ht : (pc : Int) + off = (tgt : Int)) (h : (if x = none then F else T) = some res) (kt : ¬ x = none → T = some res → AW l M R G Qf A cs ss tgt ls st) (kf : x = none → F = some res → AW l M R G Qf A cs ss (pc + 3) ls st) : AW l M R G Qf A cs ss pc ls (va_rf x :: st) := by
  intro p e s m args below meth c H locs la hF hM
  cases x with
  | none => exact lv_ifnonnullN hF.1.1 hF.1.2.1 hd (kf rfl (by simpa using h) p e s m args below meth c H locs la hF hM)
  | some a => exact lv_ifnonnull hF.1.1 hF.1.2.1 hd ht (kt (by simp) (by simpa using h) p e s m args below meth c H locs la hF hM)
theorem AW_div {x y : Int32} {f : Int32 → Option β} (hd : decode M.2.1 pc = .ok (.idiv, 1)) (h : (oDv x y).bind f = some res) (k : ∀ z, oDv x y = some z → f z = some res → AW l M R G Qf A cs ss (pc + 1) ls (.int z :: st)) : AW l M R G Qf A cs ss pc ls (.int y :: .int x :: st) := by
  intro p e s m args below meth c H locs la hF hM
  obtain ⟨z, h1, h2⟩ := bd h
  have h6 := k z h1 h2 p e s m args below meth c H locs la hF hM
  unfold oDv at h1
  split at h1
  · cases h1
  · rename_i hy
    cases h1
    exact lv_idiv hF.1.1 hF.1.2.1 hd hy h6
theorem AW_rem {x y : Int32} {f : Int32 → Option β} (hd : decode M.2.1 pc = .ok (.irem, 1)) (h : (oRm x y).bind f = some res) (k : ∀ z, oRm x y = some z → f z = some res → AW l M R G Qf A cs ss (pc + 1) ls (.int z :: st)) : AW l M R G Qf A cs ss pc ls (.int y :: .int x :: st) := by
  intro p e s m args below meth c H locs la hF hM
  obtain ⟨z, h1, h2⟩ := bd h
  have h6 := k z h1 h2 p e s m args below meth c H locs la hF hM
  unfold oRm at h1
  split at h1
  · cases h1
  · rename_i hy
    cases h1
    exact lv_irem hF.1.1 hF.1.2.1 hd hy h6
-- fields
theorem AW_getI {ci k0 N i : Nat} {C : String} {T : u_T} {r : Option Nat} {f : Int32 → Option β} (hd : decode M.2.1 pc = .ok (.getfield i, 3)) (hc : vwCl[ci]? = some (C, T, N)) (hin : ∀ w ∈ u_ws C T N, w ∈ M.2.2.2.2) (hk : k0 < N) (hlk : Cond.fieldLink M.1.cls i (T k0).1 (T k0).2.1 (T k0).2.2.1 ∈ M.2.2.2.2) (h : (oI A r ci k0).bind f = some res) (k : ∀ x, oI A r ci k0 = some x → f x = some res → AW l M R G Qf A cs ss (pc + 3) ls (.int x :: st)) : AW l M R G Qf A cs ss pc ls (va_rf r :: st) := by
  intro p e s m args below meth c H locs la hF hM
  obtain ⟨x, h1, h2⟩ := bd h
  obtain ⟨q, fs, rfl, h4, h5⟩ := oI_s h1
  have h6 := k x h1 h2 p e s m args below meth c H locs la hF hM
  have hq : g_em G (va_rf (some q)) = .ref (G.1 + q) := by
    show Value.ref (g_ad G q) = _
    rw [g_ad_lt G (Nat.lt_of_lt_of_le (g_lt h4) hM.2.2.1)]
  rw [List.map_cons, hq]
  exact va_get hF.1.1 hF.1.2.1 hF.1.2.2.2.2.2.1 hin hF.1.2.2.2.2.1 hF.2.1 hM.1 q (g_ws_get G h4) hc k0 hk (hF.1.2.2.2.2.2.1 _ hlk) (fun _ h => h) (v := .int x) (by simp [h5, g_em]) hd h6
theorem AW_getR {ci k0 N i : Nat} {C : String} {T : u_T} {r : Option Nat} {f : Option Nat → Option β} (hd : decode M.2.1 pc = .ok (.getfield i, 3)) (hc : vwCl[ci]? = some (C, T, N)) (hin : ∀ w ∈ u_ws C T N, w ∈ M.2.2.2.2) (hk : k0 < N) (hlk : Cond.fieldLink M.1.cls i (T k0).1 (T k0).2.1 (T k0).2.2.1 ∈ M.2.2.2.2) (h : (oR A r ci k0).bind f = some res) (k : ∀ x, oR A r ci k0 = some x → f x = some res → AW l M R G Qf A cs ss (pc + 3) ls (va_rf x :: st)) : AW l M R G Qf A cs ss pc ls (va_rf r :: st) := by
  intro p e s m args below meth c H locs la hF hM
  obtain ⟨x, h1, h2⟩ := bd h
  obtain ⟨q, fs, rfl, h4, h5⟩ := oR_s h1
  have h6 := k x h1 h2 p e s m args below meth c H locs la hF hM
  have hq : g_em G (va_rf (some q)) = .ref (G.1 + q) := by
    show Value.ref (g_ad G q) = _
    rw [g_ad_lt G (Nat.lt_of_lt_of_le (g_lt h4) hM.2.2.1)]
  rw [List.map_cons, hq]
  exact va_get hF.1.1 hF.1.2.1 hF.1.2.2.2.2.2.1 hin hF.1.2.2.2.2.1 hF.2.1 hM.1 q (g_ws_get G h4) hc k0 hk (hF.1.2.2.2.2.2.1 _ hlk) (fun _ h => h) (v := g_em G (va_rf x)) (by simp [h5]) hd h6
theorem g_V.put {nL : Nat} {s : State} {H H1 : Heap} {locs locs1 : List Loc} {la : Array Slot} {q : Nat} {c0 c1 : va_E} (hM : g_V nL G A s H locs ls la) (h4 : A[q]? = some c0) (hP : va_P G.2.1 vwCl ((g_ws G A).set q (G.1 + q, g_ce G c1)) H1) (hS : va_S (g_A G) s.heap H1 locs1) (hz : H1.size = H.size) : g_V nL G (A.set q c1) s H1 locs1 ls la :=
  ⟨by rw [← g_ws_set]; exact hP, by rw [hz, List.length_set]; exact hM.2.1, by rw [List.length_set]; exact hM.2.2.1, hS, hM.2.2.2.2⟩
end AWR
