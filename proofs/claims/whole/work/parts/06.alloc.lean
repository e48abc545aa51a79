section AWN
variable {l : Launch} {M : gM} {R : Room} {G : gS} {Qf : Array Value → State → List Frame → State → Prop} {A : hP} {cs ss pc : Nat} {ls : List (Option Value)} {st : List Value} {β : Type} {res : β}
theorem g_V.push {nL : Nat} {s : State} {H H1 : Heap} {locs : List Loc} {la : Array Slot} {c1 : va_E} (hM : g_V nL G A s H locs ls la) (hn : A.length < 1000000) (hz : H1.size = H.size + 1) (ho : ∀ q : Nat, q < H.size → H1[q]? = H[q]?) (hat : va_at G.2.1 vwCl (G.1 + A.length, g_ce G c1) H1) : g_V nL G (A ++ [c1]) s H1 locs ls la := by
  obtain ⟨h1, h2, h3, h4, h5⟩ := hM
  refine ⟨?_, by rw [hz, h2, List.length_append]; simp; omega, by rw [List.length_append]; simp; omega, ⟨by rw [hz]; exact Nat.le_trans h4.1 (Nat.le_succ _), fun q a b => (ho q (Nat.lt_of_lt_of_le a h4.1)).trans (h4.2.1 q a b), h4.2.2⟩, h5⟩
  rw [g_ws_app]
  refine (h1.kept fun k x hx => ho x.1 ((h1 k x hx).lt)).app (fun k x hx => ?_)
  have hz : k < 1 := (List.getElem?_eq_some_iff.mp hx).1
  rw [show k = 0 by omega] at hx
  cases hx
  exact hat
theorem AW_new {ci N i : Nat} {C : String} {T : u_T} {ty0 : Nat → FieldType} {fs : List Value} {f : Option β} (hd : decode M.2.1 pc = .ok (.new i, 3)) (hc : vwCl[ci]? = some (C, T, N)) (hin : ∀ w ∈ u_ws C T N, w ∈ M.2.2.2.2) (hty : ∀ k, k < N → parseFieldDescriptor (T k).2.2.1 = some (ty0 k)) (hlk : Cond.classLink M.1.cls i C ∈ M.2.2.2.2) (hins : Cond.instantiable C N ∈ M.2.2.2.2) (hini : Cond.initialized C ∈ M.2.2.2.2) (hfs : ∀ j, j < N → defaultValue (ty0 j) = vp_V fs j) (hem : ∀ G : gS, fs.map (g_em G) = fs)
    (hcs : cs + 1 ≤ R.cells ∧ ss + N ≤ R.slots) (h : (if A.length < 1000000 then f else none) = some res) (k : f = some res → AW l M R G Qf (A ++ [.inr (ci, fs)]) (cs + 1) (ss + N) (pc + 3) ls (va_rf (some A.length) :: st)) : AW l M R G Qf A cs ss pc ls st := by
  intro p e s m args below meth c H locs la hF hM
  split at h
  case isFalse => cases h
  rename_i hn
  have h6 := k h
  have hts := hF.1.2.2.2.2.2.1
  have hKn := hF.2.1.1 ci _ hc
  refine W.newcK hF.1.1 hF.1.2.1 hF.1.2.2.2.2.1 (hts _ hlk) (hts _ hins) (hts _ hini) rfl hd hcs.1 hcs.2 hKn.2.1 hM.2.1 fun H1 kC hkC e1 z1 o1 => ?_
  have hsz := hM.2.1
  have h7 := h6 p e s m args below meth c H1 locs la hF (g_V.push hM hn (by omega) (fun q hq => o1 q (by omega)) ?_)
  · rw [List.map_cons] at h7
    have hr : g_em G (va_rf (some A.length)) = .ref (G.1 + A.length) := by
      show Value.ref (g_ad G A.length) = _
      rw [g_ad_lt G hn]
    rw [hr] at h7
    exact h7
  · refine ⟨_, hc, ?_⟩
    show t_OB _ _ _ _ _ (vp_V (fs.map (g_em G)))
    rw [hem]
    exact (u_born ty0 hts hin hKn hkC e1 hty).to hfs
theorem AW_newa {t : Nat} {n : Int32} {N : Nat} {aty : ArrayType} {ty : FieldType} {f : Option β} (hd : decode M.2.1 pc = .ok (.newarray aty, 2)) (harr : Cond.arrayClass ty ∈ M.2.2.2.2) (hat : newarray.typeOf aty = ty) (ht : ∀ G : gS, (g_ty G)[t]? = some (G.2.2.2 t, ty)) (hprim : ty = .int ∨ ty = .byte ∨ ty = .boolean) (hn : ¬ n < 0) (hN : n.toNatClampNeg = N) (hbytes : N * componentBytes ty ≤ 536870912)
    (hcs : cs + 1 ≤ R.cells ∧ ss + N ≤ R.slots) (h : (if A.length < 1000000 then f else none) = some res) (k : f = some res → AW l M R G Qf (A ++ [.inl (t, N, .inl (fun _ => 0))]) (cs + 1) (ss + N) (pc + 2) ls (va_rf (some A.length) :: st)) : AW l M R G Qf A cs ss pc ls (.int n :: st) := by
  intro p e s m args below meth c H locs la hF hM
  split at h
  case isFalse => cases h
  rename_i hlen
  have h6 := k h
  have hts := hF.1.2.2.2.2.2.1
  subst hat
  refine va_newaK hF.1.1 hF.1.2.1 (hts _ harr) rfl hd rfl hn hN hbytes hcs.1 hcs.2 hM.2.1 fun H1 cA e1 z1 o1 hAr hNm => ?_
  have hsz := hM.2.1
  have hcA : G.2.2.2 t = cA := by
    have h8 := (hF.2.1.2 t _ (ht G)).2
    have h9 : s.vm.findClass ("[" ++ (newarray.typeOf aty).toString) = some (G.2.2.2 t) := by
      rcases hprim with e | e | e <;> (rw [e] at h8 ⊢; exact h8)
    exact Option.some.inj (h9.symm.trans hNm)
  have h7 := h6 p e s m args below meth c H1 locs la hF (g_V.push hM hlen (by omega) (fun q hq => o1 q (by omega)) ?_)
  · rw [List.map_cons] at h7
    have hr : g_em G (va_rf (some A.length)) = .ref (G.1 + A.length) := by
      show Value.ref (g_ad G A.length) = _
      rw [g_ad_lt G hlen]
    rw [hr] at h7
    exact h7
  · show H1[G.1 + A.length]? = some (vp_cell (G.2.2.2 t) (N, .inl (fun _ => 0)))
    rw [e1, hcA, vp_cell_i]
    congr 2
    funext j
    rcases hprim with e | e | e <;> (rw [e]; rfl)
theorem AW_newq {t i : Nat} {n : Int32} {N : Nat} {C : String} {f : Option β} (hd : decode M.2.1 pc = .ok (.anewarray i, 3)) (hlk : Cond.classLink M.1.cls i C ∈ M.2.2.2.2) (hao : ∀ U : State, g_Old G U → va_AO C U) (ht : ∀ G : gS, (g_ty G)[t]? = some (G.2.2.2 t, .object C)) (hn : ¬ n < 0) (hN : n.toNatClampNeg = N) (hbytes : N * 4 ≤ 536870912)
    (hcs : cs + 1 ≤ R.cells ∧ ss + N ≤ R.slots) (h : (if A.length < 1000000 then f else none) = some res) (k : f = some res → AW l M R G Qf (A ++ [.inl (t, N, .inr (.inr (.inr (.inr (fun _ => none)))))]) (cs + 1) (ss + N) (pc + 3) ls (va_rf (some A.length) :: st)) : AW l M R G Qf A cs ss pc ls (.int n :: st) := by
  intro p e s m args below meth c H locs la hF hM
  split at h
  case isFalse => cases h
  rename_i hlen
  have h6 := k h
  have hts := hF.1.2.2.2.2.2.1
  subst hN
  refine W.anew hF.1.1 hF.1.2.1 hF.1.2.2.2.2.1 (hts _ hlk) (va_AO.use (hao s hF.2.2.1)) rfl hd rfl hn hbytes hcs.1 hcs.2 fun cA kA comp f1 f2 f3 f4 => ?_
  have hsz := hM.2.1
  have hcA : G.2.2.2 t = cA := by
    obtain ⟨kA', comp', -, -, -, h9⟩ := (hF.2.1.2 t _ (ht G)).2
    exact Option.some.inj (h9.symm.trans f1)
  have h7 := h6 p e s m args below meth c (H.push ({ cls := cA, slots := Array.replicate n.toNatClampNeg .null, vm := .none } : Cell)) locs la hF (g_V.push hM hlen (by rw [Array.size_push]) (fun q hq => by rw [Array.getElem?_push, if_neg (Nat.ne_of_lt hq)]) ?_)
  · rw [List.map_cons] at h7
    have hr : g_em G (va_rf (some A.length)) = .ref H.size := by
      show Value.ref (g_ad G A.length) = _
      rw [g_ad_lt G hlen, hsz]
    rw [hr] at h7
    exact h7
  · show (H.push _)[G.1 + A.length]? = some (vp_cell (G.2.2.2 t) (n.toNatClampNeg, .inr (.inr (.inr (.inr (fun _ => none))))))
    rw [← hsz, Array.getElem?_push_size, hcA, vp_cell_q, arrV_new]
    rfl
/-- System.arraycopy of rows of ints -/
theorem AW_acopy {i : Nat} {r q : Option Nat} {x y n : Int32} {f : hP → Option β} (hd : decode M.2.1 pc = .ok (.invokestatic i, 3)) (hT : ∀ w ∈ gT, w ∈ M.2.2.2.2) (hlk : Cond.methodLink M.1.cls i arraycopyName ∈ gT) (hnat : Cond.native arraycopyName ∈ gT) (hstc : Cond.static arraycopyName ∈ gT) (hini : Cond.initialized "java/lang/System" ∈ gT) (hR : 1 ≤ R.frames ∧ 8 + (nativeFrameWords "java/lang/System" "arraycopy" 5 + 11) ≤ R.locals) (hst : st.length ≤ 4) (h : (oK A r x q y n).bind f = some res) (k : ∀ A', oK A r x q y n = some A' → f A' = some res → AW l M R G Qf A' cs ss (pc + 3) ls st) : AW l M R G Qf A cs ss pc ls (.int n :: .int y :: va_rf q :: .int x :: va_rf r :: st) := by
  intro p e s m args below meth c H locs la hF hM
  obtain ⟨A', h1, h2⟩ := bd h
  have h6 := k A' h1 h2
  obtain ⟨a, b, m0, m1, g0, g1, rfl, rfl, ha, hb, hx, hy, hn, hl0, hl1, rfl⟩ := oK_s h1
  have hts := hF.1.2.2.2.2.2.1
  have htg : ∀ w ∈ gT, w.before args s = true := fun w h => hts w (hT w h)
  rw [List.map_cons, List.map_cons, List.map_cons, List.map_cons, List.map_cons, g_ref hM ha, g_ref hM hb]
  have nn : ∀ z : Int32, ¬ z < 0 → z.toInt = (z.toNatClampNeg : Int) := by
    intro z hz
    have hz0 : (0 : Int) ≤ z.toInt := by
      have := Int32.not_lt.mp hz
      simpa using Int32.le_iff_toInt_le.mp this
    show z.toInt = ((z.toInt.toNat : Nat) : Int)
    omega
  intro T hT' X
  have hwa := g_ws_get G ha
  have hwb := g_ws_get G hb
  have hc0 : H[G.1 + a]? = some (vp_cell (G.2.2.2 0) (m0, .inl g0)) := hM.1 a _ hwa
  have hc1 : H[G.1 + b]? = some (vp_cell (G.2.2.2 0) (m1, .inl g1)) := hM.1 b _ hwb
  obtain ⟨-, k0, hk0, cm0, hkk0⟩ := (hF.2.1.2 0 _ rfl).1 m0 (fun j => .int (g0 j))
  have hg := g_stk G st hst
  obtain ⟨vm', X', step⟩ := X.arraycopy hF.1.1 hF.1.2.2.2.2.1 (htg _ hlk) (htg _ hnat) (htg _ hstc) (htg _ hini) (src := G.1 + a) (dst := G.1 + b) (cs := vp_cell (G.2.2.2 0) (m0, .inl g0)) (cd := vp_cell (G.2.2.2 0) (m1, .inl g1)) (srcPos := x) (destPos := y) (n := n) (by rw [hT']; exact hc0) (by rw [hT']; exact hc1)
    (fun _ h => by cases h) (fun _ h => by cases h) (fun h => by cases h) (fun h => by cases h) hk0 hk0 hkk0 hkk0 (by simp [refKind]) hx hy hn
    (by rw [nn x hx, nn n hn]; show ¬ _ > ((arrV (G.2.2.2 0) m0 (fun j => .int (g0 j))).slots.size : Int); rw [arrV_size]; omega)
    (by rw [nn y hy, nn n hn]; show ¬ _ > ((arrV (G.2.2.2 0) m1 (fun j => .int (g1 j))).slots.size : Int); rw [arrV_size]; omega)
    (fun vm₁ _ i hi => by
      have e : (vp_cell (G.2.2.2 0) (m0, .inl g0)).slots.getD (x.toNatClampNeg + i) .null = .int (g0 (x.toNatClampNeg + i)) := by
        show (arrV (G.2.2.2 0) m0 (fun j => .int (g0 j))).slots.getD _ _ = _
        rw [Array.getD_eq_getD_getElem?, arrV_read _ _ (by omega)]
        rfl
      refine ⟨?_, ?_⟩
      · rw [e]
        rfl
      · rw [e]
        exact trivial)
    (g := F0 m pc la (.int n :: .int y :: .ref (G.1 + b) :: .int x :: .ref (G.1 + a) :: st.map (g_em G))) rfl (by rw [hF.1.2.2.2.1]; exact hM.2.2.2.2.1) (rest := st.map (g_em G)) rfl (by rw [hF.1.2.1]; exact hd) hR.1 (by have := hR.2; show 2 * 0 + _ + _ ≤ _; omega)
  have e1 : copied (vp_cell (G.2.2.2 0) (m0, .inl g0)) (vp_cell (G.2.2.2 0) (m1, .inl g1)) x y n = vp_cell (G.2.2.2 0) (m1, .inl (va_cpy g0 g1 x.toNatClampNeg y.toNatClampNeg n.toNatClampNeg)) := va_copied (fun z => .int z) (G.2.2.2 0) (G.2.2.2 0) g0 g1 hl0
  rw [e1] at X' step
  have hl : G.1 + b < H.size := (Array.getElem?_eq_some_iff.mp hc1).1
  have hheap : ((T.setVm vm').setCell (G.1 + b) (vp_cell (G.2.2.2 0) (m1, .inl (va_cpy g0 g1 x.toNatClampNeg y.toNatClampNeg n.toNatClampNeg)))).heap = H.setIfInBounds (G.1 + b) (vp_cell (G.2.2.2 0) (m1, .inl (va_cpy g0 g1 x.toNatClampNeg y.toNatClampNeg n.toNatClampNeg))) := by rw [← hT']; rfl
  have oq : ∀ q : Nat, q ≠ G.1 + b → (H.setIfInBounds (G.1 + b) (vp_cell (G.2.2.2 0) (m1, .inl (va_cpy g0 g1 x.toNatClampNeg y.toNatClampNeg n.toNatClampNeg))))[q]? = H[q]? := fun q hq => by simp [Array.getElem?_setIfInBounds, Ne.symm hq]
  have hS4 := hM.2.2.2.1
  obtain ⟨t, a1, b1⟩ := h6 p e s m args below meth c _ _ la hF (g_V.put hM hb (va_P.set hM.1 (g_D G A) hwb (show (H.setIfInBounds (G.1 + b) _)[G.1 + b]? = some _ by simp [Array.getElem?_setIfInBounds, hl]; rfl) oq) ⟨by simp; exact hS4.1, fun q g1 g2 => by
      rw [oq q (fun e => g2 (by rw [e]; exact Nat.le_add_right _ _))]
      exact hS4.2.1 q g1 g2, fun q hq => by
      rcases List.mem_append.mp hq with h | h
      · exact hS4.2.2 q h
      · obtain ⟨z, -, hz⟩ := List.mem_map.mp h
        rw [← hz]
        exact Nat.le_add_right _ _⟩ (by simp)) _ hheap X'
  exact ⟨t, step t a1, b1⟩
end AWN
