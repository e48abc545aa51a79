def vi (x : Int32) : Option Value := some (.int x)
def oCk (A : hP) (r : Option Nat) (ci : Nat) : Option Unit := if oC A r = some ci then some () else none
theorem oCk_s {A : hP} {r : Option Nat} {ci : Nat} {u : Unit} (h : oCk A r ci = some u) : ∃ p fs, r = some p ∧ A[p]? = some (.inr (ci, fs)) := by
  unfold oCk at h
  split at h
  · rename_i h1; exact oC_s h1
  · cases h
def oOb (A : hP) (r : Option Nat) : Option Unit := if (oC A r).isSome then some () else none
theorem oOb_s {A : hP} {r : Option Nat} {u : Unit} (h : oOb A r = some u) : ∃ p ci fs, r = some p ∧ A[p]? = some (.inr (ci, fs)) := by
  unfold oOb at h
  split at h
  · rename_i h1
    obtain ⟨ci, h2⟩ := Option.isSome_iff_exists.mp h1
    obtain ⟨p, fs, h3, h4⟩ := oC_s h2
    exact ⟨p, ci, fs, h3, h4⟩
  · cases h
def oTh (A : hP) (r : Option Nat) : Option Unit := (oC A r).bind fun c => if isTh c then some () else none
theorem isTh_cl {c : Nat} (h : isTh c = true) : ∃ cl, vwCl[c]? = some cl := by
  have hc : c = 1 ∨ c = 4 ∨ c = 5 ∨ c = 7 ∨ c = 8 := by
    unfold isTh at h
    simp only [Bool.or_eq_true, beq_iff_eq] at h
    omega
  rcases hc with rfl | rfl | rfl | rfl | rfl <;> exact ⟨_, rfl⟩
theorem oTh_s {A : hP} {r : Option Nat} {u : Unit} (h : oTh A r = some u) : ∃ p ci fs cl, r = some p ∧ A[p]? = some (.inr (ci, fs)) ∧ isTh ci = true ∧ vwCl[ci]? = some cl := by
  unfold oTh at h
  obtain ⟨c, h1, h2⟩ := bd h
  split at h2
  · rename_i h3
    obtain ⟨p, fs, h4, h5⟩ := oC_s h1
    obtain ⟨cl, hcl⟩ := isTh_cl h3
    exact ⟨p, c, fs, cl, h4, h5, h3, hcl⟩
  · cases h2
theorem g_stk (G : gS) (st : List Value) (h : st.length ≤ 4) : ((st.map (g_em G)).map fun v => v.category).sum ≤ 8 := by
  have key : ∀ (t : List Value), ((t.map (g_em G)).map fun v => v.category).sum ≤ 2 * t.length := by
    intro t
    induction t with
    | nil => simp
    | cons v t ih =>
      simp only [List.map_cons, List.sum_cons, List.length_cons]
      have : (g_em G v).category ≤ 2 := by rcases lv_cat (g_em G v) with e | e <;> omega
      omega
  have := key st
  omega
theorem g_K0 {M : gM} {G : gS} {p : Program} {s : State} {m : MethodId} {args : Array Value} {meth : Method} {c : Code} (hF : g_F M G p s m args meth c) : CallFix p m c M.2.1 M.2.2.1 s args M.2.2.2.2 M.1.cls := ⟨hF.1.1, hF.1.2.1, hF.1.2.2.2.1, hF.1.2.2.2.2.1, hF.1.2.2.2.2.2.1⟩
section AWC
variable {l : Launch} {M : gM} {R : Room} {G : gS} {Qf : Array Value → State → List Frame → State → Prop} {A : hP} {cs ss pc : Nat} {ls : List (Option Value)} {st : List Value} {β : Type} {res : β}
/-- a state as it stands: a case of a test made of an 'if' -/
theorem AW_case {P : Prop} [Decidable P] {T F : Option β} (h : (if P then T else F) = some res) (kt : P → T = some res → AW l M R G Qf A cs ss pc ls st) (kf : ¬ P → F = some res → AW l M R G Qf A cs ss pc ls st) : AW l M R G Qf A cs ss pc ls st := by
  by_cases hp : P
  · exact kt hp (by rw [if_pos hp] at h; exact h)
  · exact kf hp (by rw [if_neg hp] at h; exact h)
theorem AW_tabIn {dflt lo hi off : Int} {offs : Array Int} {len : Nat} {x c : Int32} {tgt : Nat} (hd : decode M.2.1 pc = .ok (.tableswitch dflt lo hi offs, len)) (hx : x = c) (h1 : ¬ c.toInt < lo) (h2 : ¬ hi < c.toInt) (ho : offs[(c.toInt - lo).toNat]? = some off) (ht : (pc : Int) + off = (tgt : Int)) (k : AW l M R G Qf A cs ss tgt ls st) : AW l M R G Qf A cs ss pc ls (.int x :: st) := by
  intro p e s m args below meth c H locs la hF hM
  subst hx
  exact lv_tableIn hF.1.1 hF.1.2.1 hd h1 h2 ho ht (k p e s m args below meth c H locs la hF hM)
theorem AW_tabOut {dflt lo hi : Int} {offs : Array Int} {len : Nat} {x : Int32} {tgt : Nat} (hd : decode M.2.1 pc = .ok (.tableswitch dflt lo hi offs, len)) (h : x.toInt < lo ∨ hi < x.toInt) (ht : (pc : Int) + dflt = (tgt : Int)) (k : AW l M R G Qf A cs ss tgt ls st) : AW l M R G Qf A cs ss pc ls (.int x :: st) := by
  intro p e s m args below meth c H locs la hF hM
  exact lv_tableOut hF.1.1 hF.1.2.1 hd h ht (k p e s m args below meth c H locs la hF hM)
theorem AW_look {dflt off : Int} {ps : Array (Int × Int)} {len : Nat} {x : Int32} {tgt : Nat} (hd : decode M.2.1 pc = .ok (.lookupswitch dflt ps, len)) (hp : (ps.toList.zip (ps.toList.drop 1)).all (fun (a, next) => a.1 < next.1) = true) (ho : Op.lookupswitch.offset ps.toList dflt x.toInt = off) (ht : (pc : Int) + off = (tgt : Int)) (k : AW l M R G Qf A cs ss tgt ls st) : AW l M R G Qf A cs ss pc ls (.int x :: st) := by
  intro p e s m args below meth c H locs la hF hM
  exact lv_lookup hF.1.1 hF.1.2.1 hd hp ho ht (k p e s m args below meth c H locs la hF hM)
theorem i32_ne {x c : Int32} (h : ¬ x = c) : x.toInt ≠ c.toInt := fun e => h (Int32.toInt_inj.mp e)
/-- behind a call -/
theorem g_run {Q : Option Value → hP → Prop} {mc ms : Nat} {a : Array Value} {p : Program} {e : Env} {s : State} {m : MethodId} {args : Array Value} {below : List Frame} {meth : Method} {c : Code} {H : Heap} {locs : List Loc} {la : Array Slot} {st0 : List Value} (hF : g_F M G p s m args meth c) (hM : g_V M.2.2.1 G A s H locs ls la)
    (hr : va_Run p l e R s m args below meth c H locs cs ss mc ms (F0 m pc la st0) (st.map (g_em G)) (g_Qc G Q a) (g_A G))
    (k : ∀ v A', Q v A' → AW l M R G Qf A' (cs + mc) (ss + ms) (pc + 3) ls (v.toList ++ st)) : W p l e R s m args below meth c H locs cs ss (Qf args s below) (F0 m pc la st0) := by
  intro T hT X
  obtain ⟨v, st₀, t, T', L, h0, X', hL, e1, e2, ⟨v0, A', hv, hQ, hP, hz, hlen, hf⟩, go⟩ := hr T hT X
  have hv : v = v0.map (g_em G) := by cases hv; rfl
  subst hv
  have hS : va_S (g_A G) s.heap T'.heap (locs ++ L) := by
    have h4 := hM.2.2.2.1
    have hz2 := hf.1
    have hk2 := hf.2
    rw [h0] at hz2 hk2
    refine ⟨by rw [e1]; exact Nat.le_trans h4.1 hz2, fun q g1 g2 => ?_, fun q hq => ?_⟩
    · rw [e1, hk2 q (Nat.lt_of_lt_of_le g1 h4.1) g2]; exact h4.2.1 q g1 g2
    · rcases List.mem_append.mp hq with h | h
      · exact h4.2.2 q h
      · exact hL q h
  obtain ⟨t2, a1, b1⟩ := k v0 A' hQ p e s m args below meth c T'.heap (locs ++ L) la hF ⟨by rw [e1]; exact hP, by rw [e1]; exact hz, hlen, hS, hM.2.2.2.2⟩ T' rfl X'
  have hs : (v0.toList ++ st).map (g_em G) = (v0.map (g_em G)).toList ++ st.map (g_em G) := by cases v0 <;> simp
  rw [hs] at a1
  exact ⟨t2, go t2 a1, b1⟩

theorem AW_callSi {y : MethodName} {cc : ByteArray} {n d mc ms np i : Nat} {ret : Option FieldType} {As : List Value} {F : Option (Int32 × hP)} {f : Int32 × hP → Option β} (hd : decode M.2.1 pc = .ok (.invokestatic i, 3)) (hT : ∀ w ∈ gT, w ∈ M.2.2.2.2) (hlk : Cond.methodLink M.1.cls i y ∈ gT) (hstc : Cond.static y ∈ gT) (hini : Cond.initialized y.cls ∈ gT) (hcode : Cond.code y cc n ret ∈ gT) (hdesc : y.cls ≠ "java/lang/invoke/MethodHandle" ∧ y.cls ≠ "java/lang/invoke/VarHandle" ∧ (parseMethodDescriptor y.desc).map (fun d => d.parameters.length) = some np) (hR : d + 1 ≤ R.frames ∧ 8 + (n + 11) + 36 * d ≤ R.locals) (hcs : cs + mc ≤ R.cells ∧ ss + ms ≤ R.slots) (hst : st.length ≤ 4) (hnp : As.length = np) (h : F.bind f = some res) (hC : ∀ q, F = some q → Ct l (gMk y cc n ret) d mc ms A (As) (gi q)) (k : ∀ q, F = some q → f q = some res → AW l M R G Qf q.2 (cs + mc) (ss + ms) (pc + 3) ls (.int q.1 :: st)) : AW l M R G Qf A cs ss pc ls (As.reverse ++ st) := by
  intro p e s m args below meth c H locs la hF hM
  obtain ⟨q, h2, h3⟩ := bd h
  have hts := hF.1.2.2.2.2.2.1
  rw [List.map_append, List.map_reverse]
  exact g_run (Q := gi q) hF hM (va_runS (g_K0 hF) (hC q h2 G) ⟨callB_of np hts (gT_good hT hcode) rfl rfl rfl (hts _ (hT _ hini)) (hts _ (hT _ hlk)) hdesc hR, hts _ (hT _ hstc)⟩ ⟨g_blind G A _, fun U hU hW => ⟨rfl, g_pre hF hM hU hW⟩⟩ rfl (by simpa using hnp) hM.2.2.2.2.1 rfl (lv_room (g_stk G st hst)) hd hcs) (fun v A' hQ => by obtain ⟨rfl, rfl⟩ := hQ; exact k q h2 h3)
theorem AW_callVi {y : MethodName} {cc : ByteArray} {n d mc ms np i : Nat} {ret : Option FieldType} {As : List Value} {F : Option (Int32 × hP)} {f : Int32 × hP → Option β} {r : Option Nat} {ci : Nat} {cl : vw_C} (hd : decode M.2.1 pc = .ok (.invokevirtual i, 3)) (hT : ∀ w ∈ gT, w ∈ M.2.2.2.2) (hcl : vwCl[ci]? = some cl) (hlk : Cond.methodLink M.1.cls i y ∈ gT) (hinm : Cond.instanceMethod y ∈ gT) (hsel : Cond.selects cl.1 y y ∈ gT) (hini : Cond.initialized y.cls ∈ gT) (hcode : Cond.code y cc n ret ∈ gT) (hdesc : y.cls ≠ "java/lang/invoke/MethodHandle" ∧ y.cls ≠ "java/lang/invoke/VarHandle" ∧ (parseMethodDescriptor y.desc).map (fun d => d.parameters.length) = some np) (hR : d + 1 ≤ R.frames ∧ 8 + (n + 11) + 36 * d ≤ R.locals) (hcs : cs + mc ≤ R.cells ∧ ss + ms ≤ R.slots) (hst : st.length ≤ 4) (hnp : As.length = np) (h : ((oCk A r ci).bind fun _ => F.bind f) = some res) (hC : ∀ q, F = some q → Ct l (gMk y cc n ret) d mc ms A (va_rf r :: As) (gi q)) (k : ∀ q, F = some q → f q = some res → AW l M R G Qf q.2 (cs + mc) (ss + ms) (pc + 3) ls (.int q.1 :: st)) : AW l M R G Qf A cs ss pc ls (As.reverse ++ va_rf r :: st) := by
  intro p e s m args below meth c H locs la hF hM
  obtain ⟨_, h1, h0⟩ := bd h
  obtain ⟨q, h2, h3⟩ := bd h0
  obtain ⟨b, fs, rfl, h5⟩ := oCk_s h1
  have hts := hF.1.2.2.2.2.2.1
  rw [List.map_append, List.map_reverse, List.map_cons, g_ref hM h5]
  exact g_run (Q := gi q) hF hM (va_runV (C := cl.1) (g_K0 hF) (hC q h2 G) ⟨callB_of np hts (gT_good hT hcode) rfl rfl rfl (hts _ (hT _ hini)) (hts _ (hT _ hlk)) hdesc hR, hts _ (hT _ hinm), hts _ (hT _ hsel)⟩ ⟨g_blind G A _, va_recv hF.2.1 hM.1 hcl (g_ws_get G h5), fun U hU hW => ⟨by rw [List.map_cons, g_ref hM h5], g_pre hF hM hU hW⟩⟩ rfl (by simpa using hnp) hM.2.2.2.2.1 rfl (lv_room (g_stk G st hst)) hd hcs) (fun v A' hQ => by obtain ⟨rfl, rfl⟩ := hQ; exact k q h2 h3)
theorem AW_callUi {y : MethodName} {cc : ByteArray} {n d mc ms np i : Nat} {ret : Option FieldType} {As : List Value} {F : Option (Int32 × hP)} {f : Int32 × hP → Option β} {r : Option Nat} {ci : Nat} {cl : vw_C} {x : MethodName} (hd : decode M.2.1 pc = .ok (.invokevirtual i, 3)) (hT : ∀ w ∈ gT, w ∈ M.2.2.2.2) (hcl : vwCl[ci]? = some cl) (hlk : Cond.methodLink M.1.cls i x ∈ gT) (hsam : Cond.sameMethod x.cls x.cls x.name x.desc ∈ gT) (hdec : ∀ U : State, (∃ a : Array Value, ∀ w ∈ gT, w.before a U = true) → g_Old G U → va_Decl U x) (hinm : Cond.instanceMethod y ∈ gT) (hsel : Cond.selects cl.1 x y ∈ gT) (hini : Cond.initialized y.cls ∈ gT) (hcode : Cond.code y cc n ret ∈ gT) (hdesc : x.cls ≠ "java/lang/invoke/MethodHandle" ∧ x.cls ≠ "java/lang/invoke/VarHandle" ∧ (parseMethodDescriptor x.desc).map (fun d => d.parameters.length) = some np) (hR : d + 1 ≤ R.frames ∧ 8 + (n + 11) + 36 * d ≤ R.locals) (hcs : cs + mc ≤ R.cells ∧ ss + ms ≤ R.slots) (hst : st.length ≤ 4) (hnp : As.length = np) (h : ((oCk A r ci).bind fun _ => F.bind f) = some res) (hC : ∀ q, F = some q → Ct l (gMk y cc n ret) d mc ms A (va_rf r :: As) (gi q)) (k : ∀ q, F = some q → f q = some res → AW l M R G Qf q.2 (cs + mc) (ss + ms) (pc + 3) ls (.int q.1 :: st)) : AW l M R G Qf A cs ss pc ls (As.reverse ++ va_rf r :: st) := by
  intro p e s m args below meth c H locs la hF hM
  obtain ⟨_, h1, h0⟩ := bd h
  obtain ⟨q, h2, h3⟩ := bd h0
  obtain ⟨b, fs, rfl, h5⟩ := oCk_s h1
  have hts := hF.1.2.2.2.2.2.1
  have htg : ∀ w ∈ gT, w.before args s = true := fun w h => hts w (hT w h)
  rw [List.map_append, List.map_reverse, List.map_cons, g_ref hM h5]
  exact g_run (Q := gi q) hF hM (va_runU (C := cl.1) (owner := x.cls) (x := x) (g_K0 hF) (hC q h2 G) ⟨⟨rfl, rfl, hR.1, hR.2, pay_in hts (gT_good hT hcode), List.mem_cons_self⟩, htg _ hcode, htg _ hini, ⟨hdesc.1, hdesc.2.1⟩, (fun sig hs => by have h2 := hdesc.2.2; rw [hs] at h2; exact (Option.some.inj h2).symm), htg _ hlk, htg _ hsam, hdec s ⟨args, htg⟩ hF.2.2.1, htg _ hsel, htg _ hinm⟩ ⟨g_blind G A _, va_recv hF.2.1 hM.1 hcl (g_ws_get G h5), fun U hU hW => ⟨by rw [List.map_cons, g_ref hM h5], g_pre hF hM hU hW⟩⟩ rfl (by simpa using hnp) hM.2.2.2.2.1 rfl (lv_room (g_stk G st hst)) hd hcs) (fun v A' hQ => by obtain ⟨rfl, rfl⟩ := hQ; exact k q h2 h3)
theorem AW_callPi {y : MethodName} {cc : ByteArray} {n d mc ms np i : Nat} {ret : Option FieldType} {As : List Value} {F : Option (Int32 × hP)} {f : Int32 × hP → Option β} {r : Option Nat} (hd : decode M.2.1 pc = .ok (.invokespecial i, 3)) (hT : ∀ w ∈ gT, w ∈ M.2.2.2.2) (hlk : Cond.methodLink M.1.cls i y ∈ gT) (hsam : Cond.sameMethod y.cls y.cls y.name y.desc ∈ gT) (hsup : Cond.superclass M.1.cls y.cls ∈ gT) (hinm : Cond.instanceMethod y ∈ gT) (hini : Cond.initialized y.cls ∈ gT) (hcode : Cond.code y cc n ret ∈ gT) (hdesc : y.name ≠ "<init>" ∧ (parseMethodDescriptor y.desc).map (fun d => d.parameters.length) = some np) (hR : d + 1 ≤ R.frames ∧ 8 + (n + 11) + 36 * d ≤ R.locals) (hcs : cs + mc ≤ R.cells ∧ ss + ms ≤ R.slots) (hst : st.length ≤ 4) (hnp : As.length = np) (h : ((oTh A r).bind fun _ => F.bind f) = some res) (hC : ∀ q, F = some q → Ct l (gMk y cc n ret) d mc ms A (va_rf r :: As) (gi q)) (k : ∀ q, F = some q → f q = some res → AW l M R G Qf q.2 (cs + mc) (ss + ms) (pc + 3) ls (.int q.1 :: st)) : AW l M R G Qf A cs ss pc ls (As.reverse ++ va_rf r :: st) := by
  intro p e s m args below meth c H locs la hF hM
  obtain ⟨_, h1, h0⟩ := bd h
  obtain ⟨q, h2, h3⟩ := bd h0
  obtain ⟨b, ci, fs, cl, rfl, h5, -, hcl⟩ := oTh_s h1
  have hts := hF.1.2.2.2.2.2.1
  have htg : ∀ w ∈ gT, w.before args s = true := fun w h => hts w (hT w h)
  rw [List.map_append, List.map_reverse, List.map_cons, g_ref hM h5]
  exact g_run (Q := gi q) hF hM (va_runSU (C := cl.1) (hF.2.1.1 ci cl hcl).2 (g_K0 hF) (hC q h2 G) ⟨⟨rfl, rfl, hR.1, hR.2, pay_in hts (gT_good hT hcode), List.mem_cons_self⟩, htg _ hlk, htg _ hsam, htg _ hsup, htg _ hinm, htg _ hini, htg _ hcode, hdesc.1, (fun sig hs => by have h2 := hdesc.2; rw [hs] at h2; exact (Option.some.inj h2).symm)⟩ ⟨g_blind G A _, va_recv hF.2.1 hM.1 hcl (g_ws_get G h5), fun U hU hW => ⟨by rw [List.map_cons, g_ref hM h5], g_pre hF hM hU hW⟩⟩ rfl (by simpa using hnp) hM.2.2.2.2.1 rfl (lv_room (g_stk G st hst)) hd hcs) (fun v A' hQ => by obtain ⟨rfl, rfl⟩ := hQ; exact k q h2 h3)
theorem AW_callSl {y : MethodName} {cc : ByteArray} {n d mc ms np i : Nat} {ret : Option FieldType} {As : List Value} {F : Option (Int64 × hP)} {f : Int64 × hP → Option β} (hd : decode M.2.1 pc = .ok (.invokestatic i, 3)) (hT : ∀ w ∈ gT, w ∈ M.2.2.2.2) (hlk : Cond.methodLink M.1.cls i y ∈ gT) (hstc : Cond.static y ∈ gT) (hini : Cond.initialized y.cls ∈ gT) (hcode : Cond.code y cc n ret ∈ gT) (hdesc : y.cls ≠ "java/lang/invoke/MethodHandle" ∧ y.cls ≠ "java/lang/invoke/VarHandle" ∧ (parseMethodDescriptor y.desc).map (fun d => d.parameters.length) = some np) (hR : d + 1 ≤ R.frames ∧ 8 + (n + 11) + 36 * d ≤ R.locals) (hcs : cs + mc ≤ R.cells ∧ ss + ms ≤ R.slots) (hst : st.length ≤ 4) (hnp : As.length = np) (h : F.bind f = some res) (hC : ∀ q, F = some q → Ct l (gMk y cc n ret) d mc ms A (As) (gl q)) (k : ∀ q, F = some q → f q = some res → AW l M R G Qf q.2 (cs + mc) (ss + ms) (pc + 3) ls (.long q.1 :: st)) : AW l M R G Qf A cs ss pc ls (As.reverse ++ st) := by
  intro p e s m args below meth c H locs la hF hM
  obtain ⟨q, h2, h3⟩ := bd h
  have hts := hF.1.2.2.2.2.2.1
  rw [List.map_append, List.map_reverse]
  exact g_run (Q := gl q) hF hM (va_runS (g_K0 hF) (hC q h2 G) ⟨callB_of np hts (gT_good hT hcode) rfl rfl rfl (hts _ (hT _ hini)) (hts _ (hT _ hlk)) hdesc hR, hts _ (hT _ hstc)⟩ ⟨g_blind G A _, fun U hU hW => ⟨rfl, g_pre hF hM hU hW⟩⟩ rfl (by simpa using hnp) hM.2.2.2.2.1 rfl (lv_room (g_stk G st hst)) hd hcs) (fun v A' hQ => by obtain ⟨rfl, rfl⟩ := hQ; exact k q h2 h3)
theorem AW_callVl {y : MethodName} {cc : ByteArray} {n d mc ms np i : Nat} {ret : Option FieldType} {As : List Value} {F : Option (Int64 × hP)} {f : Int64 × hP → Option β} {r : Option Nat} {ci : Nat} {cl : vw_C} (hd : decode M.2.1 pc = .ok (.invokevirtual i, 3)) (hT : ∀ w ∈ gT, w ∈ M.2.2.2.2) (hcl : vwCl[ci]? = some cl) (hlk : Cond.methodLink M.1.cls i y ∈ gT) (hinm : Cond.instanceMethod y ∈ gT) (hsel : Cond.selects cl.1 y y ∈ gT) (hini : Cond.initialized y.cls ∈ gT) (hcode : Cond.code y cc n ret ∈ gT) (hdesc : y.cls ≠ "java/lang/invoke/MethodHandle" ∧ y.cls ≠ "java/lang/invoke/VarHandle" ∧ (parseMethodDescriptor y.desc).map (fun d => d.parameters.length) = some np) (hR : d + 1 ≤ R.frames ∧ 8 + (n + 11) + 36 * d ≤ R.locals) (hcs : cs + mc ≤ R.cells ∧ ss + ms ≤ R.slots) (hst : st.length ≤ 4) (hnp : As.length = np) (h : ((oCk A r ci).bind fun _ => F.bind f) = some res) (hC : ∀ q, F = some q → Ct l (gMk y cc n ret) d mc ms A (va_rf r :: As) (gl q)) (k : ∀ q, F = some q → f q = some res → AW l M R G Qf q.2 (cs + mc) (ss + ms) (pc + 3) ls (.long q.1 :: st)) : AW l M R G Qf A cs ss pc ls (As.reverse ++ va_rf r :: st) := by
  intro p e s m args below meth c H locs la hF hM
  obtain ⟨_, h1, h0⟩ := bd h
  obtain ⟨q, h2, h3⟩ := bd h0
  obtain ⟨b, fs, rfl, h5⟩ := oCk_s h1
  have hts := hF.1.2.2.2.2.2.1
  rw [List.map_append, List.map_reverse, List.map_cons, g_ref hM h5]
  exact g_run (Q := gl q) hF hM (va_runV (C := cl.1) (g_K0 hF) (hC q h2 G) ⟨callB_of np hts (gT_good hT hcode) rfl rfl rfl (hts _ (hT _ hini)) (hts _ (hT _ hlk)) hdesc hR, hts _ (hT _ hinm), hts _ (hT _ hsel)⟩ ⟨g_blind G A _, va_recv hF.2.1 hM.1 hcl (g_ws_get G h5), fun U hU hW => ⟨by rw [List.map_cons, g_ref hM h5], g_pre hF hM hU hW⟩⟩ rfl (by simpa using hnp) hM.2.2.2.2.1 rfl (lv_room (g_stk G st hst)) hd hcs) (fun v A' hQ => by obtain ⟨rfl, rfl⟩ := hQ; exact k q h2 h3)
theorem AW_callUl {y : MethodName} {cc : ByteArray} {n d mc ms np i : Nat} {ret : Option FieldType} {As : List Value} {F : Option (Int64 × hP)} {f : Int64 × hP → Option β} {r : Option Nat} {ci : Nat} {cl : vw_C} {x : MethodName} (hd : decode M.2.1 pc = .ok (.invokevirtual i, 3)) (hT : ∀ w ∈ gT, w ∈ M.2.2.2.2) (hcl : vwCl[ci]? = some cl) (hlk : Cond.methodLink M.1.cls i x ∈ gT) (hsam : Cond.sameMethod x.cls x.cls x.name x.desc ∈ gT) (hdec : ∀ U : State, (∃ a : Array Value, ∀ w ∈ gT, w.before a U = true) → g_Old G U → va_Decl U x) (hinm : Cond.instanceMethod y ∈ gT) (hsel : Cond.selects cl.1 x y ∈ gT) (hini : Cond.initialized y.cls ∈ gT) (hcode : Cond.code y cc n ret ∈ gT) (hdesc : x.cls ≠ "java/lang/invoke/MethodHandle" ∧ x.cls ≠ "java/lang/invoke/VarHandle" ∧ (parseMethodDescriptor x.desc).map (fun d => d.parameters.length) = some np) (hR : d + 1 ≤ R.frames ∧ 8 + (n + 11) + 36 * d ≤ R.locals) (hcs : cs + mc ≤ R.cells ∧ ss + ms ≤ R.slots) (hst : st.length ≤ 4) (hnp : As.length = np) (h : ((oCk A r ci).bind fun _ => F.bind f) = some res) (hC : ∀ q, F = some q → Ct l (gMk y cc n ret) d mc ms A (va_rf r :: As) (gl q)) (k : ∀ q, F = some q → f q = some res → AW l M R G Qf q.2 (cs + mc) (ss + ms) (pc + 3) ls (.long q.1 :: st)) : AW l M R G Qf A cs ss pc ls (As.reverse ++ va_rf r :: st) := by
  intro p e s m args below meth c H locs la hF hM
  obtain ⟨_, h1, h0⟩ := bd h
  obtain ⟨q, h2, h3⟩ := bd h0
  obtain ⟨b, fs, rfl, h5⟩ := oCk_s h1
  have hts := hF.1.2.2.2.2.2.1
  have htg : ∀ w ∈ gT, w.before args s = true := fun w h => hts w (hT w h)
  rw [List.map_append, List.map_reverse, List.map_cons, g_ref hM h5]
  exact g_run (Q := gl q) hF hM (va_runU (C := cl.1) (owner := x.cls) (x := x) (g_K0 hF) (hC q h2 G) ⟨⟨rfl, rfl, hR.1, hR.2, pay_in hts (gT_good hT hcode), List.mem_cons_self⟩, htg _ hcode, htg _ hini, ⟨hdesc.1, hdesc.2.1⟩, (fun sig hs => by have h2 := hdesc.2.2; rw [hs] at h2; exact (Option.some.inj h2).symm), htg _ hlk, htg _ hsam, hdec s ⟨args, htg⟩ hF.2.2.1, htg _ hsel, htg _ hinm⟩ ⟨g_blind G A _, va_recv hF.2.1 hM.1 hcl (g_ws_get G h5), fun U hU hW => ⟨by rw [List.map_cons, g_ref hM h5], g_pre hF hM hU hW⟩⟩ rfl (by simpa using hnp) hM.2.2.2.2.1 rfl (lv_room (g_stk G st hst)) hd hcs) (fun v A' hQ => by obtain ⟨rfl, rfl⟩ := hQ; exact k q h2 h3)
theorem AW_callPl {y : MethodName} {cc : ByteArray} {n d mc ms np i : Nat} {ret : Option FieldType} {As : List Value} {F : Option (Int64 × hP)} {f : Int64 × hP → Option β} {r : Option Nat} (hd : decode M.2.1 pc = .ok (.invokespecial i, 3)) (hT : ∀ w ∈ gT, w ∈ M.2.2.2.2) (hlk : Cond.methodLink M.1.cls i y ∈ gT) (hsam : Cond.sameMethod y.cls y.cls y.name y.desc ∈ gT) (hsup : Cond.superclass M.1.cls y.cls ∈ gT) (hinm : Cond.instanceMethod y ∈ gT) (hini : Cond.initialized y.cls ∈ gT) (hcode : Cond.code y cc n ret ∈ gT) (hdesc : y.name ≠ "<init>" ∧ (parseMethodDescriptor y.desc).map (fun d => d.parameters.length) = some np) (hR : d + 1 ≤ R.frames ∧ 8 + (n + 11) + 36 * d ≤ R.locals) (hcs : cs + mc ≤ R.cells ∧ ss + ms ≤ R.slots) (hst : st.length ≤ 4) (hnp : As.length = np) (h : ((oTh A r).bind fun _ => F.bind f) = some res) (hC : ∀ q, F = some q → Ct l (gMk y cc n ret) d mc ms A (va_rf r :: As) (gl q)) (k : ∀ q, F = some q → f q = some res → AW l M R G Qf q.2 (cs + mc) (ss + ms) (pc + 3) ls (.long q.1 :: st)) : AW l M R G Qf A cs ss pc ls (As.reverse ++ va_rf r :: st) := by
  intro p e s m args below meth c H locs la hF hM
  obtain ⟨_, h1, h0⟩ := bd h
  obtain ⟨q, h2, h3⟩ := bd h0
  obtain ⟨b, ci, fs, cl, rfl, h5, -, hcl⟩ := oTh_s h1
  have hts := hF.1.2.2.2.2.2.1
  have htg : ∀ w ∈ gT, w.before args s = true := fun w h => hts w (hT w h)
  rw [List.map_append, List.map_reverse, List.map_cons, g_ref hM h5]
  exact g_run (Q := gl q) hF hM (va_runSU (C := cl.1) (hF.2.1.1 ci cl hcl).2 (g_K0 hF) (hC q h2 G) ⟨⟨rfl, rfl, hR.1, hR.2, pay_in hts (gT_good hT hcode), List.mem_cons_self⟩, htg _ hlk, htg _ hsam, htg _ hsup, htg _ hinm, htg _ hini, htg _ hcode, hdesc.1, (fun sig hs => by have h2 := hdesc.2; rw [hs] at h2; exact (Option.some.inj h2).symm)⟩ ⟨g_blind G A _, va_recv hF.2.1 hM.1 hcl (g_ws_get G h5), fun U hU hW => ⟨by rw [List.map_cons, g_ref hM h5], g_pre hF hM hU hW⟩⟩ rfl (by simpa using hnp) hM.2.2.2.2.1 rfl (lv_room (g_stk G st hst)) hd hcs) (fun v A' hQ => by obtain ⟨rfl, rfl⟩ := hQ; exact k q h2 h3)
theorem AW_callSr {y : MethodName} {cc : ByteArray} {n d mc ms np i : Nat} {ret : Option FieldType} {As : List Value} {F : Option (Option Nat × hP)} {f : Option Nat × hP → Option β} (hd : decode M.2.1 pc = .ok (.invokestatic i, 3)) (hT : ∀ w ∈ gT, w ∈ M.2.2.2.2) (hlk : Cond.methodLink M.1.cls i y ∈ gT) (hstc : Cond.static y ∈ gT) (hini : Cond.initialized y.cls ∈ gT) (hcode : Cond.code y cc n ret ∈ gT) (hdesc : y.cls ≠ "java/lang/invoke/MethodHandle" ∧ y.cls ≠ "java/lang/invoke/VarHandle" ∧ (parseMethodDescriptor y.desc).map (fun d => d.parameters.length) = some np) (hR : d + 1 ≤ R.frames ∧ 8 + (n + 11) + 36 * d ≤ R.locals) (hcs : cs + mc ≤ R.cells ∧ ss + ms ≤ R.slots) (hst : st.length ≤ 4) (hnp : As.length = np) (h : F.bind f = some res) (hC : ∀ q, F = some q → Ct l (gMk y cc n ret) d mc ms A (As) (gr q)) (k : ∀ q, F = some q → f q = some res → AW l M R G Qf q.2 (cs + mc) (ss + ms) (pc + 3) ls (va_rf q.1 :: st)) : AW l M R G Qf A cs ss pc ls (As.reverse ++ st) := by
  intro p e s m args below meth c H locs la hF hM
  obtain ⟨q, h2, h3⟩ := bd h
  have hts := hF.1.2.2.2.2.2.1
  rw [List.map_append, List.map_reverse]
  exact g_run (Q := gr q) hF hM (va_runS (g_K0 hF) (hC q h2 G) ⟨callB_of np hts (gT_good hT hcode) rfl rfl rfl (hts _ (hT _ hini)) (hts _ (hT _ hlk)) hdesc hR, hts _ (hT _ hstc)⟩ ⟨g_blind G A _, fun U hU hW => ⟨rfl, g_pre hF hM hU hW⟩⟩ rfl (by simpa using hnp) hM.2.2.2.2.1 rfl (lv_room (g_stk G st hst)) hd hcs) (fun v A' hQ => by obtain ⟨rfl, rfl⟩ := hQ; exact k q h2 h3)
theorem AW_callVr {y : MethodName} {cc : ByteArray} {n d mc ms np i : Nat} {ret : Option FieldType} {As : List Value} {F : Option (Option Nat × hP)} {f : Option Nat × hP → Option β} {r : Option Nat} {ci : Nat} {cl : vw_C} (hd : decode M.2.1 pc = .ok (.invokevirtual i, 3)) (hT : ∀ w ∈ gT, w ∈ M.2.2.2.2) (hcl : vwCl[ci]? = some cl) (hlk : Cond.methodLink M.1.cls i y ∈ gT) (hinm : Cond.instanceMethod y ∈ gT) (hsel : Cond.selects cl.1 y y ∈ gT) (hini : Cond.initialized y.cls ∈ gT) (hcode : Cond.code y cc n ret ∈ gT) (hdesc : y.cls ≠ "java/lang/invoke/MethodHandle" ∧ y.cls ≠ "java/lang/invoke/VarHandle" ∧ (parseMethodDescriptor y.desc).map (fun d => d.parameters.length) = some np) (hR : d + 1 ≤ R.frames ∧ 8 + (n + 11) + 36 * d ≤ R.locals) (hcs : cs + mc ≤ R.cells ∧ ss + ms ≤ R.slots) (hst : st.length ≤ 4) (hnp : As.length = np) (h : ((oCk A r ci).bind fun _ => F.bind f) = some res) (hC : ∀ q, F = some q → Ct l (gMk y cc n ret) d mc ms A (va_rf r :: As) (gr q)) (k : ∀ q, F = some q → f q = some res → AW l M R G Qf q.2 (cs + mc) (ss + ms) (pc + 3) ls (va_rf q.1 :: st)) : AW l M R G Qf A cs ss pc ls (As.reverse ++ va_rf r :: st) := by
  intro p e s m args below meth c H locs la hF hM
  obtain ⟨_, h1, h0⟩ := bd h
  obtain ⟨q, h2, h3⟩ := bd h0
  obtain ⟨b, fs, rfl, h5⟩ := oCk_s h1
  have hts := hF.1.2.2.2.2.2.1
  rw [List.map_append, List.map_reverse, List.map_cons, g_ref hM h5]
  exact g_run (Q := gr q) hF hM (va_runV (C := cl.1) (g_K0 hF) (hC q h2 G) ⟨callB_of np hts (gT_good hT hcode) rfl rfl rfl (hts _ (hT _ hini)) (hts _ (hT _ hlk)) hdesc hR, hts _ (hT _ hinm), hts _ (hT _ hsel)⟩ ⟨g_blind G A _, va_recv hF.2.1 hM.1 hcl (g_ws_get G h5), fun U hU hW => ⟨by rw [List.map_cons, g_ref hM h5], g_pre hF hM hU hW⟩⟩ rfl (by simpa using hnp) hM.2.2.2.2.1 rfl (lv_room (g_stk G st hst)) hd hcs) (fun v A' hQ => by obtain ⟨rfl, rfl⟩ := hQ; exact k q h2 h3)
theorem AW_callUr {y : MethodName} {cc : ByteArray} {n d mc ms np i : Nat} {ret : Option FieldType} {As : List Value} {F : Option (Option Nat × hP)} {f : Option Nat × hP → Option β} {r : Option Nat} {ci : Nat} {cl : vw_C} {x : MethodName} (hd : decode M.2.1 pc = .ok (.invokevirtual i, 3)) (hT : ∀ w ∈ gT, w ∈ M.2.2.2.2) (hcl : vwCl[ci]? = some cl) (hlk : Cond.methodLink M.1.cls i x ∈ gT) (hsam : Cond.sameMethod x.cls x.cls x.name x.desc ∈ gT) (hdec : ∀ U : State, (∃ a : Array Value, ∀ w ∈ gT, w.before a U = true) → g_Old G U → va_Decl U x) (hinm : Cond.instanceMethod y ∈ gT) (hsel : Cond.selects cl.1 x y ∈ gT) (hini : Cond.initialized y.cls ∈ gT) (hcode : Cond.code y cc n ret ∈ gT) (hdesc : x.cls ≠ "java/lang/invoke/MethodHandle" ∧ x.cls ≠ "java/lang/invoke/VarHandle" ∧ (parseMethodDescriptor x.desc).map (fun d => d.parameters.length) = some np) (hR : d + 1 ≤ R.frames ∧ 8 + (n + 11) + 36 * d ≤ R.locals) (hcs : cs + mc ≤ R.cells ∧ ss + ms ≤ R.slots) (hst : st.length ≤ 4) (hnp : As.length = np) (h : ((oCk A r ci).bind fun _ => F.bind f) = some res) (hC : ∀ q, F = some q → Ct l (gMk y cc n ret) d mc ms A (va_rf r :: As) (gr q)) (k : ∀ q, F = some q → f q = some res → AW l M R G Qf q.2 (cs + mc) (ss + ms) (pc + 3) ls (va_rf q.1 :: st)) : AW l M R G Qf A cs ss pc ls (As.reverse ++ va_rf r :: st) := by
  intro p e s m args below meth c H locs la hF hM
  obtain ⟨_, h1, h0⟩ := bd h
  obtain ⟨q, h2, h3⟩ := bd h0
  obtain ⟨b, fs, rfl, h5⟩ := oCk_s h1
  have hts := hF.1.2.2.2.2.2.1
  have htg : ∀ w ∈ gT, w.before args s = true := fun w h => hts w (hT w h)
  rw [List.map_append, List.map_reverse, List.map_cons, g_ref hM h5]
  exact g_run (Q := gr q) hF hM (va_runU (C := cl.1) (owner := x.cls) (x := x) (g_K0 hF) (hC q h2 G) ⟨⟨rfl, rfl, hR.1, hR.2, pay_in hts (gT_good hT hcode), List.mem_cons_self⟩, htg _ hcode, htg _ hini, ⟨hdesc.1, hdesc.2.1⟩, (fun sig hs => by have h2 := hdesc.2.2; rw [hs] at h2; exact (Option.some.inj h2).symm), htg _ hlk, htg _ hsam, hdec s ⟨args, htg⟩ hF.2.2.1, htg _ hsel, htg _ hinm⟩ ⟨g_blind G A _, va_recv hF.2.1 hM.1 hcl (g_ws_get G h5), fun U hU hW => ⟨by rw [List.map_cons, g_ref hM h5], g_pre hF hM hU hW⟩⟩ rfl (by simpa using hnp) hM.2.2.2.2.1 rfl (lv_room (g_stk G st hst)) hd hcs) (fun v A' hQ => by obtain ⟨rfl, rfl⟩ := hQ; exact k q h2 h3)
theorem AW_callPr {y : MethodName} {cc : ByteArray} {n d mc ms np i : Nat} {ret : Option FieldType} {As : List Value} {F : Option (Option Nat × hP)} {f : Option Nat × hP → Option β} {r : Option Nat} (hd : decode M.2.1 pc = .ok (.invokespecial i, 3)) (hT : ∀ w ∈ gT, w ∈ M.2.2.2.2) (hlk : Cond.methodLink M.1.cls i y ∈ gT) (hsam : Cond.sameMethod y.cls y.cls y.name y.desc ∈ gT) (hsup : Cond.superclass M.1.cls y.cls ∈ gT) (hinm : Cond.instanceMethod y ∈ gT) (hini : Cond.initialized y.cls ∈ gT) (hcode : Cond.code y cc n ret ∈ gT) (hdesc : y.name ≠ "<init>" ∧ (parseMethodDescriptor y.desc).map (fun d => d.parameters.length) = some np) (hR : d + 1 ≤ R.frames ∧ 8 + (n + 11) + 36 * d ≤ R.locals) (hcs : cs + mc ≤ R.cells ∧ ss + ms ≤ R.slots) (hst : st.length ≤ 4) (hnp : As.length = np) (h : ((oTh A r).bind fun _ => F.bind f) = some res) (hC : ∀ q, F = some q → Ct l (gMk y cc n ret) d mc ms A (va_rf r :: As) (gr q)) (k : ∀ q, F = some q → f q = some res → AW l M R G Qf q.2 (cs + mc) (ss + ms) (pc + 3) ls (va_rf q.1 :: st)) : AW l M R G Qf A cs ss pc ls (As.reverse ++ va_rf r :: st) := by
  intro p e s m args below meth c H locs la hF hM
  obtain ⟨_, h1, h0⟩ := bd h
  obtain ⟨q, h2, h3⟩ := bd h0
  obtain ⟨b, ci, fs, cl, rfl, h5, -, hcl⟩ := oTh_s h1
  have hts := hF.1.2.2.2.2.2.1
  have htg : ∀ w ∈ gT, w.before args s = true := fun w h => hts w (hT w h)
  rw [List.map_append, List.map_reverse, List.map_cons, g_ref hM h5]
  exact g_run (Q := gr q) hF hM (va_runSU (C := cl.1) (hF.2.1.1 ci cl hcl).2 (g_K0 hF) (hC q h2 G) ⟨⟨rfl, rfl, hR.1, hR.2, pay_in hts (gT_good hT hcode), List.mem_cons_self⟩, htg _ hlk, htg _ hsam, htg _ hsup, htg _ hinm, htg _ hini, htg _ hcode, hdesc.1, (fun sig hs => by have h2 := hdesc.2; rw [hs] at h2; exact (Option.some.inj h2).symm)⟩ ⟨g_blind G A _, va_recv hF.2.1 hM.1 hcl (g_ws_get G h5), fun U hU hW => ⟨by rw [List.map_cons, g_ref hM h5], g_pre hF hM hU hW⟩⟩ rfl (by simpa using hnp) hM.2.2.2.2.1 rfl (lv_room (g_stk G st hst)) hd hcs) (fun v A' hQ => by obtain ⟨rfl, rfl⟩ := hQ; exact k q h2 h3)
theorem AW_callSu {y : MethodName} {cc : ByteArray} {n d mc ms np i : Nat} {ret : Option FieldType} {As : List Value} {F : Option (Unit × hP)} {f : Unit × hP → Option β} (hd : decode M.2.1 pc = .ok (.invokestatic i, 3)) (hT : ∀ w ∈ gT, w ∈ M.2.2.2.2) (hlk : Cond.methodLink M.1.cls i y ∈ gT) (hstc : Cond.static y ∈ gT) (hini : Cond.initialized y.cls ∈ gT) (hcode : Cond.code y cc n ret ∈ gT) (hdesc : y.cls ≠ "java/lang/invoke/MethodHandle" ∧ y.cls ≠ "java/lang/invoke/VarHandle" ∧ (parseMethodDescriptor y.desc).map (fun d => d.parameters.length) = some np) (hR : d + 1 ≤ R.frames ∧ 8 + (n + 11) + 36 * d ≤ R.locals) (hcs : cs + mc ≤ R.cells ∧ ss + ms ≤ R.slots) (hst : st.length ≤ 4) (hnp : As.length = np) (h : F.bind f = some res) (hC : ∀ q, F = some q → Ct l (gMk y cc n ret) d mc ms A (As) (gu q)) (k : ∀ q, F = some q → f q = some res → AW l M R G Qf q.2 (cs + mc) (ss + ms) (pc + 3) ls (st)) : AW l M R G Qf A cs ss pc ls (As.reverse ++ st) := by
  intro p e s m args below meth c H locs la hF hM
  obtain ⟨q, h2, h3⟩ := bd h
  have hts := hF.1.2.2.2.2.2.1
  rw [List.map_append, List.map_reverse]
  exact g_run (Q := gu q) hF hM (va_runS (g_K0 hF) (hC q h2 G) ⟨callB_of np hts (gT_good hT hcode) rfl rfl rfl (hts _ (hT _ hini)) (hts _ (hT _ hlk)) hdesc hR, hts _ (hT _ hstc)⟩ ⟨g_blind G A _, fun U hU hW => ⟨rfl, g_pre hF hM hU hW⟩⟩ rfl (by simpa using hnp) hM.2.2.2.2.1 rfl (lv_room (g_stk G st hst)) hd hcs) (fun v A' hQ => by obtain ⟨rfl, rfl⟩ := hQ; exact k q h2 h3)
theorem AW_callVu {y : MethodName} {cc : ByteArray} {n d mc ms np i : Nat} {ret : Option FieldType} {As : List Value} {F : Option (Unit × hP)} {f : Unit × hP → Option β} {r : Option Nat} {ci : Nat} {cl : vw_C} (hd : decode M.2.1 pc = .ok (.invokevirtual i, 3)) (hT : ∀ w ∈ gT, w ∈ M.2.2.2.2) (hcl : vwCl[ci]? = some cl) (hlk : Cond.methodLink M.1.cls i y ∈ gT) (hinm : Cond.instanceMethod y ∈ gT) (hsel : Cond.selects cl.1 y y ∈ gT) (hini : Cond.initialized y.cls ∈ gT) (hcode : Cond.code y cc n ret ∈ gT) (hdesc : y.cls ≠ "java/lang/invoke/MethodHandle" ∧ y.cls ≠ "java/lang/invoke/VarHandle" ∧ (parseMethodDescriptor y.desc).map (fun d => d.parameters.length) = some np) (hR : d + 1 ≤ R.frames ∧ 8 + (n + 11) + 36 * d ≤ R.locals) (hcs : cs + mc ≤ R.cells ∧ ss + ms ≤ R.slots) (hst : st.length ≤ 4) (hnp : As.length = np) (h : ((oCk A r ci).bind fun _ => F.bind f) = some res) (hC : ∀ q, F = some q → Ct l (gMk y cc n ret) d mc ms A (va_rf r :: As) (gu q)) (k : ∀ q, F = some q → f q = some res → AW l M R G Qf q.2 (cs + mc) (ss + ms) (pc + 3) ls (st)) : AW l M R G Qf A cs ss pc ls (As.reverse ++ va_rf r :: st) := by
  intro p e s m args below meth c H locs la hF hM
  obtain ⟨_, h1, h0⟩ := bd h
  obtain ⟨q, h2, h3⟩ := bd h0
  obtain ⟨b, fs, rfl, h5⟩ := oCk_s h1
  have hts := hF.1.2.2.2.2.2.1
  rw [List.map_append, List.map_reverse, List.map_cons, g_ref hM h5]
  exact g_run (Q := gu q) hF hM (va_runV (C := cl.1) (g_K0 hF) (hC q h2 G) ⟨callB_of np hts (gT_good hT hcode) rfl rfl rfl (hts _ (hT _ hini)) (hts _ (hT _ hlk)) hdesc hR, hts _ (hT _ hinm), hts _ (hT _ hsel)⟩ ⟨g_blind G A _, va_recv hF.2.1 hM.1 hcl (g_ws_get G h5), fun U hU hW => ⟨by rw [List.map_cons, g_ref hM h5], g_pre hF hM hU hW⟩⟩ rfl (by simpa using hnp) hM.2.2.2.2.1 rfl (lv_room (g_stk G st hst)) hd hcs) (fun v A' hQ => by obtain ⟨rfl, rfl⟩ := hQ; exact k q h2 h3)
theorem AW_callUu {y : MethodName} {cc : ByteArray} {n d mc ms np i : Nat} {ret : Option FieldType} {As : List Value} {F : Option (Unit × hP)} {f : Unit × hP → Option β} {r : Option Nat} {ci : Nat} {cl : vw_C} {x : MethodName} (hd : decode M.2.1 pc = .ok (.invokevirtual i, 3)) (hT : ∀ w ∈ gT, w ∈ M.2.2.2.2) (hcl : vwCl[ci]? = some cl) (hlk : Cond.methodLink M.1.cls i x ∈ gT) (hsam : Cond.sameMethod x.cls x.cls x.name x.desc ∈ gT) (hdec : ∀ U : State, (∃ a : Array Value, ∀ w ∈ gT, w.before a U = true) → g_Old G U → va_Decl U x) (hinm : Cond.instanceMethod y ∈ gT) (hsel : Cond.selects cl.1 x y ∈ gT) (hini : Cond.initialized y.cls ∈ gT) (hcode : Cond.code y cc n ret ∈ gT) (hdesc : x.cls ≠ "java/lang/invoke/MethodHandle" ∧ x.cls ≠ "java/lang/invoke/VarHandle" ∧ (parseMethodDescriptor x.desc).map (fun d => d.parameters.length) = some np) (hR : d + 1 ≤ R.frames ∧ 8 + (n + 11) + 36 * d ≤ R.locals) (hcs : cs + mc ≤ R.cells ∧ ss + ms ≤ R.slots) (hst : st.length ≤ 4) (hnp : As.length = np) (h : ((oCk A r ci).bind fun _ => F.bind f) = some res) (hC : ∀ q, F = some q → Ct l (gMk y cc n ret) d mc ms A (va_rf r :: As) (gu q)) (k : ∀ q, F = some q → f q = some res → AW l M R G Qf q.2 (cs + mc) (ss + ms) (pc + 3) ls (st)) : AW l M R G Qf A cs ss pc ls (As.reverse ++ va_rf r :: st) := by
  intro p e s m args below meth c H locs la hF hM
  obtain ⟨_, h1, h0⟩ := bd h
  obtain ⟨q, h2, h3⟩ := bd h0
  obtain ⟨b, fs, rfl, h5⟩ := oCk_s h1
  have hts := hF.1.2.2.2.2.2.1
  have htg : ∀ w ∈ gT, w.before args s = true := fun w h => hts w (hT w h)
  rw [List.map_append, List.map_reverse, List.map_cons, g_ref hM h5]
  exact g_run (Q := gu q) hF hM (va_runU (C := cl.1) (owner := x.cls) (x := x) (g_K0 hF) (hC q h2 G) ⟨⟨rfl, rfl, hR.1, hR.2, pay_in hts (gT_good hT hcode), List.mem_cons_self⟩, htg _ hcode, htg _ hini, ⟨hdesc.1, hdesc.2.1⟩, (fun sig hs => by have h2 := hdesc.2.2; rw [hs] at h2; exact (Option.some.inj h2).symm), htg _ hlk, htg _ hsam, hdec s ⟨args, htg⟩ hF.2.2.1, htg _ hsel, htg _ hinm⟩ ⟨g_blind G A _, va_recv hF.2.1 hM.1 hcl (g_ws_get G h5), fun U hU hW => ⟨by rw [List.map_cons, g_ref hM h5], g_pre hF hM hU hW⟩⟩ rfl (by simpa using hnp) hM.2.2.2.2.1 rfl (lv_room (g_stk G st hst)) hd hcs) (fun v A' hQ => by obtain ⟨rfl, rfl⟩ := hQ; exact k q h2 h3)
theorem AW_callPu {y : MethodName} {cc : ByteArray} {n d mc ms np i : Nat} {ret : Option FieldType} {As : List Value} {F : Option (Unit × hP)} {f : Unit × hP → Option β} {r : Option Nat} (hd : decode M.2.1 pc = .ok (.invokespecial i, 3)) (hT : ∀ w ∈ gT, w ∈ M.2.2.2.2) (hlk : Cond.methodLink M.1.cls i y ∈ gT) (hsam : Cond.sameMethod y.cls y.cls y.name y.desc ∈ gT) (hsup : Cond.superclass M.1.cls y.cls ∈ gT) (hinm : Cond.instanceMethod y ∈ gT) (hini : Cond.initialized y.cls ∈ gT) (hcode : Cond.code y cc n ret ∈ gT) (hdesc : y.name ≠ "<init>" ∧ (parseMethodDescriptor y.desc).map (fun d => d.parameters.length) = some np) (hR : d + 1 ≤ R.frames ∧ 8 + (n + 11) + 36 * d ≤ R.locals) (hcs : cs + mc ≤ R.cells ∧ ss + ms ≤ R.slots) (hst : st.length ≤ 4) (hnp : As.length = np) (h : ((oTh A r).bind fun _ => F.bind f) = some res) (hC : ∀ q, F = some q → Ct l (gMk y cc n ret) d mc ms A (va_rf r :: As) (gu q)) (k : ∀ q, F = some q → f q = some res → AW l M R G Qf q.2 (cs + mc) (ss + ms) (pc + 3) ls (st)) : AW l M R G Qf A cs ss pc ls (As.reverse ++ va_rf r :: st) := by
  intro p e s m args below meth c H locs la hF hM
  obtain ⟨_, h1, h0⟩ := bd h
  obtain ⟨q, h2, h3⟩ := bd h0
  obtain ⟨b, ci, fs, cl, rfl, h5, -, hcl⟩ := oTh_s h1
  have hts := hF.1.2.2.2.2.2.1
  have htg : ∀ w ∈ gT, w.before args s = true := fun w h => hts w (hT w h)
  rw [List.map_append, List.map_reverse, List.map_cons, g_ref hM h5]
  exact g_run (Q := gu q) hF hM (va_runSU (C := cl.1) (hF.2.1.1 ci cl hcl).2 (g_K0 hF) (hC q h2 G) ⟨⟨rfl, rfl, hR.1, hR.2, pay_in hts (gT_good hT hcode), List.mem_cons_self⟩, htg _ hlk, htg _ hsam, htg _ hsup, htg _ hinm, htg _ hini, htg _ hcode, hdesc.1, (fun sig hs => by have h2 := hdesc.2; rw [hs] at h2; exact (Option.some.inj h2).symm)⟩ ⟨g_blind G A _, va_recv hF.2.1 hM.1 hcl (g_ws_get G h5), fun U hU hW => ⟨by rw [List.map_cons, g_ref hM h5], g_pre hF hM hU hW⟩⟩ rfl (by simpa using hnp) hM.2.2.2.2.1 rfl (lv_room (g_stk G st hst)) hd hcs) (fun v A' hQ => by obtain ⟨rfl, rfl⟩ := hQ; exact k q h2 h3)
theorem AW_callIu {y : MethodName} {cc : ByteArray} {n d mc ms np i : Nat} {As : List Value} {F : Option (Unit × hP)} {f : Unit × hP → Option β} {r : Option Nat} (hd : decode M.2.1 pc = .ok (.invokespecial i, 3)) (hT : ∀ w ∈ gT, w ∈ M.2.2.2.2) (hlk : Cond.methodLink M.1.cls i y ∈ gT) (hinm : Cond.instanceMethod y ∈ gT) (hini : Cond.initialized y.cls ∈ gT) (hcode : Cond.code y cc n none ∈ gT) (hy1 : y.name = "<init>") (hdesc : y.cls ≠ "java/lang/invoke/MethodHandle" ∧ y.cls ≠ "java/lang/invoke/VarHandle" ∧ (parseMethodDescriptor y.desc).map (fun d => d.parameters.length) = some np) (hR : d + 1 ≤ R.frames ∧ 8 + (n + 11) + 36 * d ≤ R.locals) (hcs : cs + mc ≤ R.cells ∧ ss + ms ≤ R.slots) (hst : st.length ≤ 4) (hnp : As.length = np) (h : ((oOb A r).bind fun _ => F.bind f) = some res) (hC : ∀ q, F = some q → Ct l (gMk y cc n none) d mc ms A (va_rf r :: As) (gu q)) (k : ∀ q, F = some q → f q = some res → AW l M R G Qf q.2 (cs + mc) (ss + ms) (pc + 3) ls (st)) : AW l M R G Qf A cs ss pc ls (As.reverse ++ va_rf r :: st) := by
  intro p e s m args below meth c H locs la hF hM
  obtain ⟨_, h1, h0⟩ := bd h
  obtain ⟨q, h2, h3⟩ := bd h0
  obtain ⟨b, ci, fs, rfl, h5⟩ := oOb_s h1
  have hts := hF.1.2.2.2.2.2.1
  rw [List.map_append, List.map_reverse, List.map_cons, g_ref hM h5]
  exact g_run (Q := gu q) hF hM (va_runI (g_K0 hF) (hC q h2 G) ⟨callB_of np hts (gT_good hT hcode) rfl rfl rfl (hts _ (hT _ hini)) (hts _ (hT _ hlk)) hdesc hR, hy1, hts _ (hT _ hinm)⟩ ⟨g_blind G A _, fun U hU hW => ⟨by rw [List.map_cons, g_ref hM h5], g_pre hF hM hU hW⟩⟩ rfl (by simpa using hnp) hM.2.2.2.2.1 rfl (lv_room (g_stk G st hst)) hd hcs) (fun v A' hQ => by obtain ⟨rfl, rfl⟩ := hQ; exact k q h2 h3)
theorem AW_callNu {y : MethodName} {cc : ByteArray} {n d mc ms np i : Nat} {As : List Value} {F : Option (Unit × hP)} {f : Unit × hP → Option β} {r : Option Nat} {host : String} (hd : decode M.2.1 pc = .ok (.invokespecial i, 3)) (hT : ∀ w ∈ gT, w ∈ M.2.2.2.2) (hlk : (M.1.cls, i, y, host) ∈ g_nest) (hinm : Cond.instanceMethod y ∈ gT) (hini : Cond.initialized y.cls ∈ gT) (hcode : Cond.code y cc n none ∈ gT) (hy1 : y.name = "<init>") (hdesc : y.cls ≠ "java/lang/invoke/MethodHandle" ∧ y.cls ≠ "java/lang/invoke/VarHandle" ∧ (parseMethodDescriptor y.desc).map (fun d => d.parameters.length) = some np) (hR : d + 1 ≤ R.frames ∧ 8 + (n + 11) + 36 * d ≤ R.locals) (hcs : cs + mc ≤ R.cells ∧ ss + ms ≤ R.slots) (hst : st.length ≤ 4) (hnp : As.length = np) (h : ((oOb A r).bind fun _ => F.bind f) = some res) (hC : ∀ q, F = some q → Ct l (gMk y cc n none) d mc ms A (va_rf r :: As) (gu q)) (k : ∀ q, F = some q → f q = some res → AW l M R G Qf q.2 (cs + mc) (ss + ms) (pc + 3) ls (st)) : AW l M R G Qf A cs ss pc ls (As.reverse ++ va_rf r :: st) := by
  intro p e s m args below meth c H locs la hF hM
  obtain ⟨_, h1, h0⟩ := bd h
  obtain ⟨q, h2, h3⟩ := bd h0
  obtain ⟨b, ci, fs, rfl, h5⟩ := oOb_s h1
  have hts := hF.1.2.2.2.2.2.1
  rw [List.map_append, List.map_reverse, List.map_cons, g_ref hM h5]
  exact g_run (Q := gu q) hF hM (va_runIN (host := host) (g_K0 hF) (hC q h2 G) ⟨va_cnB np hts (gT_good hT hcode) rfl rfl rfl (hF.2.2.1.2.2.2.1 _ hlk) (hts _ (hT _ hini)) hdesc hR, hy1, hts _ (hT _ hinm)⟩ ⟨g_blind G A _, fun U hU hW => ⟨by rw [List.map_cons, g_ref hM h5], g_pre hF hM hU hW⟩⟩ rfl (by simpa using hnp) hM.2.2.2.2.1 rfl (lv_room (g_stk G st hst)) hd hcs) (fun v A' hQ => by obtain ⟨rfl, rfl⟩ := hQ; exact k q h2 h3)
/-- Object's constructor -/
theorem AW_objInit {i : Nat} {r : Option Nat} {f : Option β} (hd : decode M.2.1 pc = .ok (.invokespecial i, 3)) (hT : ∀ w ∈ gT, w ∈ M.2.2.2.2) (hlk : Cond.methodLink M.1.cls i objectInit ∈ gT) (hinm : Cond.instanceMethod objectInit ∈ gT) (hcode : Cond.code objectInit ⟨#[0xb1]⟩ 1 none ∈ gT) (hR : 1 ≤ R.frames ∧ 20 ≤ R.locals) (hst : st.length ≤ 4) (h : ((oOb A r).bind fun _ => f) = some res) (k : f = some res → AW l M R G Qf A cs ss (pc + 3) ls st) : AW l M R G Qf A cs ss pc ls (va_rf r :: st) := by
  intro p e s m args below meth c H locs la hF hM
  obtain ⟨_, h1, h0⟩ := bd h
  obtain ⟨b, ci, fs, rfl, h5⟩ := oOb_s h1
  have hts := hF.1.2.2.2.2.2.1
  rw [List.map_cons, g_ref hM h5]
  refine W.objInit hF.1.1 hF.1.2.1 hF.1.2.2.2.2.1 (hts _ (hT _ hlk)) (hts _ (hT _ hinm)) (hts _ (hT _ hcode)) rfl (hM.2.2.2.2.1.trans hF.1.2.2.2.1.symm) rfl hd hR.1 ?_ (k h0 p e s m args below meth c H locs la hF hM)
  have h6 := g_stk G st hst
  show 2 * 0 + _ + 12 ≤ _
  omega
-- returns
theorem g_end {p : Program} {s t : State} {m : MethodId} {args : Array Value} {meth : Method} {c : Code} {H : Heap} {locs : List Loc} {la : Array Slot} {nL : Nat} {Q : Option Value → hP → Prop} {v : Option Value} (hM : g_V nL G A s H locs ls la) (hQ : Q v A) (ht : t.heap = H) : g_Qc G Q args s (.returned (v.map (g_em G))) t :=
  ⟨v, A, rfl, hQ, by rw [ht]; exact hM.1, by rw [ht]; exact hM.2.1, hM.2.2.1, hM.2.2.2.1.F ht⟩
theorem AW_iret {mc ms : Nat} {x : Int32} {res : Int32 × hP} (hd : decode M.2.1 pc = .ok (.ireturn, 1)) (hr : M.2.2.2.1 = some .int) (hc : cs ≤ mc ∧ ss ≤ ms) (h : some (x, A) = some res) : AW l M R G (g_Qf G (gi res) mc ms) A cs ss pc ls [.int x] := by
  intro p e s m args below meth c H locs la hF hM
  cases h
  refine W.widen hc.1 hc.2 ?_
  exact W.iret hF.1.1 hF.1.2.1 (hF.1.2.2.1.trans hr) (fun t ht hW => g_end (v := some (.int x)) (p := p) (m := m) (meth := meth) (c := c) hM ⟨rfl, rfl⟩ ht) hM.2.2.2.1.2.2 hd hF.1.2.2.2.2.2.2.1
theorem AW_zret {mc ms : Nat} {x : Int32} {res : Int32 × hP} (hd : decode M.2.1 pc = .ok (.ireturn, 1)) (hr : M.2.2.2.1 = some .boolean) (hc : cs ≤ mc ∧ ss ≤ ms) (h : (if x = 0 ∨ x = 1 then some (x, A) else none) = some res) : AW l M R G (g_Qf G (gi res) mc ms) A cs ss pc ls [.int x] := by
  intro p e s m args below meth c H locs la hF hM
  split at h
  case isFalse => cases h
  rename_i h9
  cases h
  refine W.widen hc.1 hc.2 ?_
  exact W.zret hF.1.1 hF.1.2.1 (hF.1.2.2.1.trans hr) (nz_z h9).1 (fun t ht hW => g_end (v := some (.int x)) (p := p) (m := m) (meth := meth) (c := c) hM ⟨rfl, rfl⟩ ht) hM.2.2.2.1.2.2 hd hF.1.2.2.2.2.2.2.1
theorem AW_lret {mc ms : Nat} {x : Int64} {res : Int64 × hP} (hd : decode M.2.1 pc = .ok (.lreturn, 1)) (hr : M.2.2.2.1 = some .long) (hc : cs ≤ mc ∧ ss ≤ ms) (h : some (x, A) = some res) : AW l M R G (g_Qf G (gl res) mc ms) A cs ss pc ls [.long x] := by
  intro p e s m args below meth c H locs la hF hM
  cases h
  refine W.widen hc.1 hc.2 ?_
  exact W.lret hF.1.1 hF.1.2.1 (hF.1.2.2.1.trans hr) (fun t ht hW => g_end (v := some (.long x)) (p := p) (m := m) (meth := meth) (c := c) hM ⟨rfl, rfl⟩ ht) hM.2.2.2.1.2.2 hd hF.1.2.2.2.2.2.2.1
theorem AW_vret {mc ms : Nat} {res : Unit × hP} (hd : decode M.2.1 pc = .ok (.return_, 1)) (hr : M.2.2.2.1 = none) (hc : cs ≤ mc ∧ ss ≤ ms) (h : some ((), A) = some res) : AW l M R G (g_Qf G (gu res) mc ms) A cs ss pc ls [] := by
  intro p e s m args below meth c H locs la hF hM
  cases h
  refine W.widen hc.1 hc.2 ?_
  exact W.vret hF.1.1 hF.1.2.1 (hF.1.2.2.1.trans hr) (fun t ht hW => g_end (v := none) (p := p) (m := m) (meth := meth) (c := c) hM ⟨rfl, rfl⟩ ht) hM.2.2.2.1.2.2 hd hF.1.2.2.2.2.2.2.1
theorem AW_aret {mc ms : Nat} {x : Option Nat} {C : String} {res : Option Nat × hP} (hd : decode M.2.1 pc = .ok (.areturn, 1)) (hr : M.2.2.2.1 = some (.object C)) (hc : cs ≤ mc ∧ ss ≤ ms) (h : some (x, A) = some res) : AW l M R G (g_Qf G (gr res) mc ms) A cs ss pc ls [va_rf x] := by
  intro p e s m args below meth c H locs la hF hM
  cases h
  refine W.widen hc.1 hc.2 ?_
  exact W.aret hF.1.1 hF.1.2.1 (hF.1.2.2.1.trans hr) (Or.inl ⟨C, rfl⟩) (by rw [g_em_rf]; exact va_rf_or _) (fun t ht hW => g_end (v := some (va_rf x)) (p := p) (m := m) (meth := meth) (c := c) hM ⟨rfl, rfl⟩ ht) hM.2.2.2.1.2.2 hd hF.1.2.2.2.2.2.2.1
end AWC
def FW (ls' ls : List (Option Value)) : Prop := ∀ (i : Nat) (v : Value), ls'[i]? = some (some v) → ls[i]? = some (some v)
theorem fw_n {ls : List (Option Value)} : FW [] ls := fun i v h => by simp at h
theorem fw_k {a : Option Value} {ls' ls : List (Option Value)} (h : FW ls' ls) : FW (a :: ls') (a :: ls) := fun i v hv => by
  cases i with
  | zero => exact hv
  | succ i => exact h i v hv
theorem fw_d {a : Option Value} {ls' ls : List (Option Value)} (h : FW ls' ls) : FW (none :: ls') (a :: ls) := fun i v hv => by
  cases i with
  | zero => cases hv
  | succ i => exact h i v hv
/-- the locals at a method's entry, by their places -/
def g_pos (lv : List (Nat × Value)) (n : Nat) : List (Option Value) := (List.range n).map (fun i => (lv.find? (fun q => q.1 == i)).map (fun q => q.2))
theorem g_pos_s {lv : List (Nat × Value)} {n i : Nat} {v : Value} (h : (g_pos lv n)[i]? = some (some v)) : (i, v) ∈ lv := by
  unfold g_pos at h
  rw [List.getElem?_map] at h
  cases hr : (List.range n)[i]? with
  | none => rw [hr] at h; cases h
  | some j =>
    have hj : j = i := by
      have := List.getElem?_eq_some_iff.mp hr
      obtain ⟨h1, h2⟩ := this
      simpa using h2.symm
    subst hj
    rw [hr] at h
    simp only [Option.map_some, Option.some.injEq] at h
    cases hf : lv.find? (fun q => q.1 == j) with
    | none => rw [hf] at h; cases h
    | some q =>
      rw [hf] at h
      simp only [Option.map_some, Option.some.injEq] at h
      have h3 := List.mem_of_find?_eq_some hf
      have h4 := List.find?_some hf
      have h5 : q.1 = j := by simpa using h4
      rw [← h5, ← h]
      exact h3
theorem g_args_map (G : gS) : ∀ (as : List Value) (n : Nat), lv_args n (as.map (g_em G)) = (lv_args n as).map (g_lm G)
  | [], _ => rfl
  | v :: vs, n => by
    simp only [List.map_cons, lv_args, g_em_cat, g_args_map G vs]
    rfl
theorem g_sl_len (as : List Value) : (lg_sl as).length = (as.map fun v => v.category).sum := by
  induction as with
  | nil => rfl
  | cons v vs ih =>
    have e : lg_sl (v :: vs) = (if v.category = 2 then [Slot.val v, .second] else [.val v]) ++ lg_sl vs := rfl
    rw [e, List.length_append, ih, List.map_cons, List.sum_cons]
    rcases lv_cat v with h | h <;> simp [h]
/-- a contract out of a walk from the entry -/
theorem Ct.of {l : Launch} {y : MethodName} {cc : ByteArray} {n : Nat} {ret : Option FieldType} {d mc ms : Nat} {A : hP} {as : List Value} {Q : Option Value → hP → Prop} {lv : List (Nat × Value)} {ls : List (Option Value)} (hy : plainName y.cls = true) (ha : lv_args 0 as = lv) (hl : g_pos lv n = ls) (hn : (as.map fun v => v.category).sum ≤ n) (h : ∀ G : gS, AW l (gMk y cc n ret) (g_rm d mc ms) G (g_Qf G Q mc ms) A 0 0 0 ls []) : Ct l (gMk y cc n ret) d mc ms A as Q := by
  intro G
  refine Met.ofW (cc := cc) (maxL := n) (ret := ret) hy rfl ?_
  intro p e s m args below meth c s₁ B hml hv
  obtain ⟨rfl, hP, hK, hO, hz, hlen⟩ := hv
  have hts := atoms_spec (ws := Cond.code y cc n ret :: gT) B.pre
  rw [lg_entry_eq]
  have hle : (lg_sl (as.map (g_em G))).length ≤ n := by
    rw [g_sl_len, List.map_map]
    have : (fun v => Value.category v) ∘ g_em G = fun v => v.category := by funext v; exact g_em_cat G v
    rw [this]; exact hn
  have hen := lv_entry (as.map (g_em G)) (n := n) hle
  refine h G p e s m _ below meth c s.heap [] _ ⟨⟨B.exec, B.bytes, B.returns, hml, findClass_of_methodNamed B.named, hts, B.notSynchronized, fun hh => (name_of_methodNamed B.named B.method).1.trans hh⟩, hK, hO, by omega⟩ ⟨hP, hz, hlen, va_S.rf, hen.1, hen.2.1, fun i v hv => ?_⟩
  rw [← hl] at hv
  have h1 := g_pos_s hv
  rw [← ha] at h1
  have h2 : (i, g_em G v) ∈ lv_args 0 (as.map (g_em G)) := by
    rw [g_args_map]
    exact List.mem_map.mpr ⟨(i, v), h1, rfl⟩
  exact hen.2.2 _ h2
