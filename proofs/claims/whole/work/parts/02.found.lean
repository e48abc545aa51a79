/-! THE GROUND: one heap of labels. G = (the base: label k lies at address base + k; the classes' numbers and slots; addresses of old objects, labels from 1000000 on; the array classes by kind: 0 int, 1 byte, 2 boolean, 3 Row, 4 Port, 5 Thing). A heap 'hP' is a list of cells; references in it are labels. -/
abbrev gS : Type := Nat × va_G × (Nat → Nat) × (Nat → ClassId)
abbrev hP : Type := List va_E
abbrev gM : Type := MethodName × ByteArray × Nat × Option FieldType × List Cond
def g_ad (G : gS) (k : Nat) : Nat := if k < 1000000 then G.1 + k else G.2.2.1 (k - 1000000)
def g_em (G : gS) (v : Value) : Value := match v with
  | .ref k => .ref (g_ad G k)
  | v => v
def g_ar (G : gS) (x : vp_A) : vp_A := match x with
  | (n, .inr (.inr (.inr (.inr f)))) => (n, .inr (.inr (.inr (.inr (fun i => (f i).map (g_ad G))))))
  | x => x
def g_ce (G : gS) (c : va_E) : va_E := match c with
  | .inl (t, x) => .inl (G.2.2.2 t, g_ar G x)
  | .inr (ci, fs) => .inr (ci, fs.map (g_em G))
def g_ws (G : gS) (A : hP) : va_W := A.mapIdx (fun k c => (G.1 + k, g_ce G c))
def g_ty (G : gS) : List (ClassId × FieldType) := [(G.2.2.2 0, .int), (G.2.2.2 1, .byte), (G.2.2.2 2, .boolean), (G.2.2.2 3, .object "YesterdayScale$Row"), (G.2.2.2 4, .object "YesterdayScale$Port"), (G.2.2.2 5, .object "YesterdayScale$Thing")]
def g_A (G : gS) : Nat → Prop := fun q => G.1 ≤ q
def g_lm (G : gS) (q : Nat × Value) : Nat × Value := (q.1, g_em G q.2)
-- the texts of the String constants of the tape: place in the pool, text
def g_str : List (Nat × String) := [(48, "law"), (73, "thing"), (105, "salt"), (109, "fish"), (113, "wool"), (117, "stone"), (121, "whale"), (93, "day")]
def g_len : List Nat := [3, 5, 4, 4, 4, 5, 5, 3]
def g_byt : List (List Int32) := [[108, 97, 119], [116, 104, 105, 110, 103], [115, 97, 108, 116], [102, 105, 115, 104], [119, 111, 111, 108], [115, 116, 111, 110, 101], [119, 104, 97, 108, 101], [100, 97, 121]]
-- which casts hold, which don't
def g_yes : List (String × String) := [("YesterdayScale$Salt", "YesterdayScale$Thing"), ("YesterdayScale$Fish", "YesterdayScale$Thing"), ("YesterdayScale$Wool", "YesterdayScale$Thing"), ("YesterdayScale$Stone", "YesterdayScale$Thing"), ("YesterdayScale$Whale", "YesterdayScale$Thing"), ("YesterdayScale$Fish", "YesterdayScale$Salt"), ("YesterdayScale$Wool", "YesterdayScale$Salt"), ("YesterdayScale$Whale", "YesterdayScale$Stone")]
def g_no : List (String × String) := [("YesterdayScale$Salt", "YesterdayScale$Fish"), ("YesterdayScale$Salt", "YesterdayScale$Wool"), ("YesterdayScale$Salt", "YesterdayScale$Stone"), ("YesterdayScale$Salt", "YesterdayScale$Whale"), ("YesterdayScale$Fish", "YesterdayScale$Wool"), ("YesterdayScale$Fish", "YesterdayScale$Stone"), ("YesterdayScale$Fish", "YesterdayScale$Whale"), ("YesterdayScale$Wool", "YesterdayScale$Fish"), ("YesterdayScale$Wool", "YesterdayScale$Stone"), ("YesterdayScale$Wool", "YesterdayScale$Whale"), ("YesterdayScale$Stone", "YesterdayScale$Salt"), ("YesterdayScale$Stone", "YesterdayScale$Fish"), ("YesterdayScale$Stone", "YesterdayScale$Wool"), ("YesterdayScale$Stone", "YesterdayScale$Whale"), ("YesterdayScale$Whale", "YesterdayScale$Salt"), ("YesterdayScale$Whale", "YesterdayScale$Fish"), ("YesterdayScale$Whale", "YesterdayScale$Wool")]
def g_nest : List (String × Nat × MethodName × String) := [("YesterdayScale", 17, ⟨"YesterdayScale$Tape", "<init>", "()V"⟩, "YesterdayScale"), ("YesterdayScale", 24, ⟨"YesterdayScale$Port", "<init>", "()V"⟩, "YesterdayScale"), ("YesterdayScale", 38, ⟨"YesterdayScale$Worlds", "<init>", "()V"⟩, "YesterdayScale"), ("YesterdayScale", 45, ⟨"YesterdayScale$Asking", "<init>", "()V"⟩, "YesterdayScale"), ("YesterdayScale", 50, ⟨"YesterdayScale$Row", "<init>", "()V"⟩, "YesterdayScale")]
/-- what is known of the tables and of the old heap, and stays -/
def g_Old (G : gS) (U : State) : Prop :=
  (va_AO "YesterdayScale$Row" U ∧ va_AO "YesterdayScale$Port" U ∧ va_AO "YesterdayScale$Thing" U) ∧
  (∀ q ∈ g_yes, va_Nw (.castable q.1 q.2) U) ∧ (∀ q ∈ g_no, va_Nc q.1 q.2 U) ∧
  (∀ q ∈ g_nest, va_Nw (.methodLinkNest q.1 q.2.1 q.2.2.1 q.2.2.2) U) ∧
  va_Nw (.declares ⟨"YesterdayScale$Thing", "kindNumber", "()I"⟩) U ∧
  (∀ (i : Nat) (q : Nat × String), g_str[i]? = some q → vk_R RX6 q.1 q.2 (G.2.2.1 i) U) ∧
  vk_S 8 g_len g_byt G.2.2.1 (fun i => G.2.2.1 (100 + i)) (g_A G) U U.heap ∧
  va_Z "java/lang/String" "COMPACT_STRINGS" "Z" (.int 1) (g_A G) U U.heap ∧
  (va_Z "jdk/internal/util/Preconditions" "SIOOBE_FORMATTER" "Ljava/util/function/BiFunction;" .null (g_A G) U U.heap ∨ va_Z "jdk/internal/util/Preconditions" "SIOOBE_FORMATTER" "Ljava/util/function/BiFunction;" (.ref (G.2.2.1 200)) (g_A G) U U.heap) ∧
  va_X (G.2.2.1 300) (G.2.2.1 301) (fun j => Int32.ofNat (G.2.2.1 (1000 + j))) U U.heap ∧ G.2.2.1 300 < U.heap.size ∧ ¬ g_A G (G.2.2.1 300)
theorem g_em_cat (G : gS) (v : Value) : (g_em G v).category = v.category := by cases v <;> rfl
theorem g_cat_rf (r : Option Nat) : (va_rf r).category = 1 := by cases r <;> rfl
theorem g_em_rf (G : gS) (r : Option Nat) : g_em G (va_rf r) = va_rf (r.map (g_ad G)) := by cases r <;> rfl
theorem g_ad_lt (G : gS) {k : Nat} (h : k < 1000000) : g_ad G k = G.1 + k := by simp [g_ad, h]
theorem g_ws_get (G : gS) {A : hP} {k : Nat} {c : va_E} (h : A[k]? = some c) : (g_ws G A)[k]? = some (G.1 + k, g_ce G c) := by
  simp [g_ws, List.getElem?_mapIdx, h]
theorem g_ws_len (G : gS) (A : hP) : (g_ws G A).length = A.length := by simp [g_ws]
theorem g_ws_set (G : gS) (A : hP) (k : Nat) (c : va_E) : (g_ws G A).set k (G.1 + k, g_ce G c) = g_ws G (A.set k c) := by
  apply List.ext_getElem?
  intro i
  simp only [g_ws, List.getElem?_mapIdx, List.getElem?_set, List.length_mapIdx]
  by_cases h : k = i
  · subst h
    by_cases h2 : k < A.length
    · simp [h2]
    · simp [h2]
  · simp [h]
theorem g_ws_app (G : gS) (A : hP) (c : va_E) : g_ws G (A ++ [c]) = g_ws G A ++ [(G.1 + A.length, g_ce G c)] := by
  simp [g_ws, List.mapIdx_append]
theorem g_D (G : gS) (A : hP) : va_D (g_A G) (g_ws G A) := by
  constructor
  · intro i j p q hp hq h
    simp only [g_ws, List.getElem?_mapIdx, Option.map_eq_some_iff] at hp hq
    obtain ⟨_, -, rfl⟩ := hp
    obtain ⟨_, -, rfl⟩ := hq
    exact Nat.add_left_cancel h
  · intro k q hk
    simp only [g_ws, List.getElem?_mapIdx, Option.map_eq_some_iff] at hk
    obtain ⟨_, -, rfl⟩ := hk
    exact Nat.le_add_right _ _
theorem g_lt {A : hP} {k : Nat} {c : va_E} (h : A[k]? = some c) : k < A.length := (List.getElem?_eq_some_iff.mp h).1
theorem g_Old.moved {G : gS} {s U : State} (h : g_Old G s) (hW : s.WarmedH U.vm) (hq : ∀ q : Nat, q < s.heap.size → ¬ g_A G q → U.heap[q]? = s.heap[q]?) : g_Old G U := by
  obtain ⟨⟨a1, a2, a3⟩, b, c, d, e, f, g, z, z2, x1, x2, x3⟩ := h
  have hv := hW.alike
  exact ⟨⟨a1.moved hv, a2.moved hv, a3.moved hv⟩, fun q hq => (b q hq).warmC hW, fun q hq => (c q hq).moved hv, fun q hq => (d q hq).warmM hW, e.warmD hW, fun i q hi => (f i q hi).warm hW, (g.moved hv).kept hq, (z.moved hv).kept hq, z2.imp (fun y => (y.moved hv).kept hq) (fun y => (y.moved hv).kept hq), (x1.moved hv).kept (hq _ x2 x3), (Array.getElem?_eq_some_iff.mp ((hq _ x2 x3).trans x1.choose_spec.1)).1, x3⟩
def g_B (M : gM) (p : Program) (s : State) (m : MethodId) (args : Array Value) (meth : Method) (c : Code) : Prop :=
  p.tables.exec = Jvm.exec ∧ c.code = M.2.1 ∧ meth.sig.returnType = M.2.2.2.1 ∧ c.maxLocals = M.2.2.1 ∧ s.vm.findClass M.1.cls = some m.cls ∧ (∀ w ∈ M.2.2.2.2, w.before args s = true) ∧ meth.locks = false ∧ (M.1.name = "<init>" → meth.name = "<init>")
/-- the locals by their places; 'none': nothing is said -/
def g_L (G : gS) (nL : Nat) (ls : List (Option Value)) (la : Array Slot) : Prop := la.size = nL ∧ lv_wf la ∧ ∀ (i : Nat) (v : Value), ls[i]? = some (some v) → la[i]? = some (.val (g_em G v))
/-- what stays through a method's run, and what moves -/
def g_F (M : gM) (G : gS) (p : Program) (s : State) (m : MethodId) (args : Array Value) (meth : Method) (c : Code) : Prop := g_B M p s m args meth c ∧ va_K G.2.1 vwCl (g_ty G) s ∧ g_Old G s ∧ G.1 ≤ s.heap.size
def g_V (nL : Nat) (G : gS) (A : hP) (s : State) (H : Heap) (locs : List Loc) (ls : List (Option Value)) (la : Array Slot) : Prop := va_P G.2.1 vwCl (g_ws G A) H ∧ H.size = G.1 + A.length ∧ A.length ≤ 1000000 ∧ va_S (g_A G) s.heap H locs ∧ g_L G nL ls la
def AW (l : Launch) (M : gM) (R : Room) (G : gS) (Qf : Array Value → State → List Frame → State → Prop) (A : hP) (cs ss pc : Nat) (ls : List (Option Value)) (st : List Value) : Prop :=
  ∀ (p : Program) (e : Env) (s : State) (m : MethodId) (args : Array Value) (below : List Frame) (meth : Method) (c : Code) (H : Heap) (locs : List Loc) (la : Array Slot), g_F M G p s m args meth c → g_V M.2.2.1 G A s H locs ls la →
    W p l e R s m args below meth c H locs cs ss (Qf args s below) (F0 m pc la (st.map (g_em G)))
/-- a method's start, its end, its contract -/
def g_H (G : gS) (A : hP) (U : State) : Prop := va_P G.2.1 vwCl (g_ws G A) U.heap ∧ va_K G.2.1 vwCl (g_ty G) U ∧ g_Old G U ∧ U.heap.size = G.1 + A.length ∧ A.length ≤ 1000000
def g_Qc (G : gS) (Q : Option Value → hP → Prop) : Array Value → State → Outcome → State → Prop := fun _ st o t => ∃ (v : Option Value) (A' : hP), o = .returned (v.map (g_em G)) ∧ Q v A' ∧ va_P G.2.1 vwCl (g_ws G A') t.heap ∧ t.heap.size = G.1 + A'.length ∧ A'.length ≤ 1000000 ∧ va_F (g_A G) st t
def g_Qf (G : gS) (Q : Option Value → hP → Prop) (mc ms : Nat) : Array Value → State → List Frame → State → Prop := fun args s below => MQ below (g_Qc G Q) args s mc ms (g_A G)
def g_rm (d mc ms : Nat) : Room := { frames := d, cells := mc, slots := ms, locals := 36 * d }
def Ct (l : Launch) (M : gM) (d mc ms : Nat) (A : hP) (as : List Value) (Q : Option Value → hP → Prop) : Prop :=
  ∀ G : gS, Met l M.1 M.2.2.2.2 (g_rm d mc ms) (va_Pc (as.map (g_em G)) (g_H G A)) (g_Qc G Q) mc ms (g_A G)
def gi (r : Int32 × hP) : Option Value → hP → Prop := fun v A => v = some (.int r.1) ∧ A = r.2
def gl (r : Int64 × hP) : Option Value → hP → Prop := fun v A => v = some (.long r.1) ∧ A = r.2
def gr (r : Option Nat × hP) : Option Value → hP → Prop := fun v A => v = some (va_rf r.1) ∧ A = r.2
def gu (r : Unit × hP) : Option Value → hP → Prop := fun v A => v = none ∧ A = r.2
theorem g_blind (G : gS) (A : hP) (as : List Value) : FrameBlind (va_Pc as (g_H G A)) := by
  intro a U g mk h
  obtain ⟨h0, h1, h2, h3, h4, h5⟩ := h
  exact ⟨h0, h1, va_K.moved (u := U) (U := U.calling g mk a) (Vm.Alike.refl U.vm) h2, by
    obtain ⟨⟨a1, a2, a3⟩, b, c, d, e, f, g1, z, z2, x1, x2, x3⟩ := h3
    exact ⟨⟨a1.moved (Vm.Alike.refl U.vm), a2.moved (Vm.Alike.refl U.vm), a3.moved (Vm.Alike.refl U.vm)⟩, fun q hq => va_Nw.same rfl rfl (b q hq), fun q hq => (c q hq).moved (Vm.Alike.refl U.vm), fun q hq => va_Nw.same rfl rfl (d q hq), va_Nw.same rfl rfl e, fun i q hi => vk_R.same rfl (f i q hi), g1.moved (Vm.Alike.refl U.vm), z.moved (Vm.Alike.refl U.vm), z2.imp (fun y => y.moved (Vm.Alike.refl U.vm)) (fun y => y.moved (Vm.Alike.refl U.vm)), x1.moved (Vm.Alike.refl U.vm), x2, x3⟩, h4, h5⟩
theorem g_pre {M : gM} {G : gS} {p : Program} {s : State} {m : MethodId} {args : Array Value} {meth : Method} {c : Code} {nL : Nat} {A : hP} {H : Heap} {locs : List Loc} {ls : List (Option Value)} {la : Array Slot} (hF : g_F M G p s m args meth c) (hM : g_V nL G A s H locs ls la) {U : State} (hU : U.heap = H) (hW : s.WarmedH U.vm) : g_H G A U := by
  obtain ⟨h1, h2, h3, h4, h5⟩ := hM
  refine ⟨by rw [hU]; exact h1, va_K.moved hW.alike hF.2.1, hF.2.2.1.moved hW (fun q a b => ?_), by rw [hU]; exact h2, h3⟩
  rw [hU]; exact h4.2.1 q a b
section AWR
variable {l : Launch} {M : gM} {R : Room} {G : gS} {Qf : Array Value → State → List Frame → State → Prop} {A : hP} {cs ss pc : Nat} {ls : List (Option Value)} {st : List Value}
theorem AW_iconst {i : Int} {v : Int32} (hd : decode M.2.1 pc = .ok (.iconst i, 1)) (hv : Int32.ofInt i = v) (k : AW l M R G Qf A cs ss (pc + 1) ls (.int v :: st)) : AW l M R G Qf A cs ss pc ls (st) := by
  intro p e s m args below meth c H locs la hF hM
  exact lv_iconst hF.1.1 hF.1.2.1 hd hv (k p e s m args below meth c H locs la hF hM)
theorem AW_bipush {i : Int} {v : Int32} (hd : decode M.2.1 pc = .ok (.bipush i, 2)) (hv : (Int8.ofInt i).toInt32 = v) (k : AW l M R G Qf A cs ss (pc + 2) ls (.int v :: st)) : AW l M R G Qf A cs ss pc ls (st) := by
  intro p e s m args below meth c H locs la hF hM
  exact lv_bipush hF.1.1 hF.1.2.1 hd hv (k p e s m args below meth c H locs la hF hM)
theorem AW_sipush {i : Int} {v : Int32} (hd : decode M.2.1 pc = .ok (.sipush i, 3)) (hv : (Int16.ofInt i).toInt32 = v) (k : AW l M R G Qf A cs ss (pc + 3) ls (.int v :: st)) : AW l M R G Qf A cs ss pc ls (st) := by
  intro p e s m args below meth c H locs la hF hM
  exact lv_sipush hF.1.1 hF.1.2.1 hd hv (k p e s m args below meth c H locs la hF hM)
theorem AW_lconst {i : Fin 2} {v : Int64} (hd : decode M.2.1 pc = .ok (.lconst i, 1)) (hv : Int64.ofNat (i : Nat) = v) (k : AW l M R G Qf A cs ss (pc + 1) ls (.long v :: st)) : AW l M R G Qf A cs ss pc ls (st) := by
  intro p e s m args below meth c H locs la hF hM
  exact lv_lconst hF.1.1 hF.1.2.1 hd hv (k p e s m args below meth c H locs la hF hM)
theorem AW_iadd {x y : Int32} (hd : decode M.2.1 pc = .ok (.iadd, 1)) (k : AW l M R G Qf A cs ss (pc + 1) ls (.int (x + y) :: st)) : AW l M R G Qf A cs ss pc ls (.int y :: .int x :: st) := by
  intro p e s m args below meth c H locs la hF hM
  exact lv_iadd hF.1.1 hF.1.2.1 hd (k p e s m args below meth c H locs la hF hM)
theorem AW_isub {x y : Int32} (hd : decode M.2.1 pc = .ok (.isub, 1)) (k : AW l M R G Qf A cs ss (pc + 1) ls (.int (x - y) :: st)) : AW l M R G Qf A cs ss pc ls (.int y :: .int x :: st) := by
  intro p e s m args below meth c H locs la hF hM
  exact lv_isub hF.1.1 hF.1.2.1 hd (k p e s m args below meth c H locs la hF hM)
theorem AW_imul {x y : Int32} (hd : decode M.2.1 pc = .ok (.imul, 1)) (k : AW l M R G Qf A cs ss (pc + 1) ls (.int (x * y) :: st)) : AW l M R G Qf A cs ss pc ls (.int y :: .int x :: st) := by
  intro p e s m args below meth c H locs la hF hM
  exact lv_imul hF.1.1 hF.1.2.1 hd (k p e s m args below meth c H locs la hF hM)
theorem AW_iand {x y : Int32} (hd : decode M.2.1 pc = .ok (.iand, 1)) (k : AW l M R G Qf A cs ss (pc + 1) ls (.int (x &&& y) :: st)) : AW l M R G Qf A cs ss pc ls (.int y :: .int x :: st) := by
  intro p e s m args below meth c H locs la hF hM
  exact lv_iand hF.1.1 hF.1.2.1 hd (k p e s m args below meth c H locs la hF hM)
theorem AW_ior {x y : Int32} (hd : decode M.2.1 pc = .ok (.ior, 1)) (k : AW l M R G Qf A cs ss (pc + 1) ls (.int (x ||| y) :: st)) : AW l M R G Qf A cs ss pc ls (.int y :: .int x :: st) := by
  intro p e s m args below meth c H locs la hF hM
  exact lv_ior hF.1.1 hF.1.2.1 hd (k p e s m args below meth c H locs la hF hM)
theorem AW_ishl {x y : Int32} (hd : decode M.2.1 pc = .ok (.ishl, 1)) (k : AW l M R G Qf A cs ss (pc + 1) ls (.int (x <<< (y &&& 31)) :: st)) : AW l M R G Qf A cs ss pc ls (.int y :: .int x :: st) := by
  intro p e s m args below meth c H locs la hF hM
  exact lv_ishl hF.1.1 hF.1.2.1 hd (k p e s m args below meth c H locs la hF hM)
theorem AW_ishr {x y : Int32} (hd : decode M.2.1 pc = .ok (.ishr, 1)) (k : AW l M R G Qf A cs ss (pc + 1) ls (.int (x >>> (y &&& 31)) :: st)) : AW l M R G Qf A cs ss pc ls (.int y :: .int x :: st) := by
  intro p e s m args below meth c H locs la hF hM
  exact lv_ishr hF.1.1 hF.1.2.1 hd (k p e s m args below meth c H locs la hF hM)
theorem AW_iushr {x y : Int32} (hd : decode M.2.1 pc = .ok (.iushr, 1)) (k : AW l M R G Qf A cs ss (pc + 1) ls (.int ((x.toUInt32 >>> (y.toUInt32 &&& Int32.toUInt32 31)).toInt32) :: st)) : AW l M R G Qf A cs ss pc ls (.int y :: .int x :: st) := by
  intro p e s m args below meth c H locs la hF hM
  exact lv_iushr hF.1.1 hF.1.2.1 hd rfl (k p e s m args below meth c H locs la hF hM)
theorem AW_ineg {x : Int32} (hd : decode M.2.1 pc = .ok (.ineg, 1)) (k : AW l M R G Qf A cs ss (pc + 1) ls (.int (-x) :: st)) : AW l M R G Qf A cs ss pc ls (.int x :: st) := by
  intro p e s m args below meth c H locs la hF hM
  exact lv_ineg hF.1.1 hF.1.2.1 hd (k p e s m args below meth c H locs la hF hM)
theorem AW_ladd {x y : Int64} (hd : decode M.2.1 pc = .ok (.ladd, 1)) (k : AW l M R G Qf A cs ss (pc + 1) ls (.long (x + y) :: st)) : AW l M R G Qf A cs ss pc ls (.long y :: .long x :: st) := by
  intro p e s m args below meth c H locs la hF hM
  exact lv_ladd hF.1.1 hF.1.2.1 hd (k p e s m args below meth c H locs la hF hM)
theorem AW_land {x y : Int64} (hd : decode M.2.1 pc = .ok (.land, 1)) (k : AW l M R G Qf A cs ss (pc + 1) ls (.long (x &&& y) :: st)) : AW l M R G Qf A cs ss pc ls (.long y :: .long x :: st) := by
  intro p e s m args below meth c H locs la hF hM
  exact lv_land hF.1.1 hF.1.2.1 hd (k p e s m args below meth c H locs la hF hM)
theorem AW_lor {x y : Int64} (hd : decode M.2.1 pc = .ok (.lor, 1)) (k : AW l M R G Qf A cs ss (pc + 1) ls (.long (x ||| y) :: st)) : AW l M R G Qf A cs ss pc ls (.long y :: .long x :: st) := by
  intro p e s m args below meth c H locs la hF hM
  exact lv_lor hF.1.1 hF.1.2.1 hd (k p e s m args below meth c H locs la hF hM)
theorem AW_lshl {x : Int64} {y : Int32} (hd : decode M.2.1 pc = .ok (.lshl, 1)) (k : AW l M R G Qf A cs ss (pc + 1) ls (.long (x <<< (y.toInt64 &&& 63)) :: st)) : AW l M R G Qf A cs ss pc ls (.int y :: .long x :: st) := by
  intro p e s m args below meth c H locs la hF hM
  exact lv_lshl hF.1.1 hF.1.2.1 hd rfl (k p e s m args below meth c H locs la hF hM)
theorem AW_lshr {x : Int64} {y : Int32} (hd : decode M.2.1 pc = .ok (.lshr, 1)) (k : AW l M R G Qf A cs ss (pc + 1) ls (.long (x >>> (y.toInt64 &&& 63)) :: st)) : AW l M R G Qf A cs ss pc ls (.int y :: .long x :: st) := by
  intro p e s m args below meth c H locs la hF hM
  exact lv_lshr hF.1.1 hF.1.2.1 hd rfl (k p e s m args below meth c H locs la hF hM)
theorem AW_i2l {x : Int32} (hd : decode M.2.1 pc = .ok (.i2l, 1)) (k : AW l M R G Qf A cs ss (pc + 1) ls (.long x.toInt64 :: st)) : AW l M R G Qf A cs ss pc ls (.int x :: st) := by
  intro p e s m args below meth c H locs la hF hM
  exact lv_i2l hF.1.1 hF.1.2.1 hd rfl (k p e s m args below meth c H locs la hF hM)
theorem AW_l2i {x : Int64} (hd : decode M.2.1 pc = .ok (.l2i, 1)) (k : AW l M R G Qf A cs ss (pc + 1) ls (.int x.toInt32 :: st)) : AW l M R G Qf A cs ss pc ls (.long x :: st) := by
  intro p e s m args below meth c H locs la hF hM
  exact lv_l2i hF.1.1 hF.1.2.1 hd rfl (k p e s m args below meth c H locs la hF hM)
theorem AW_i2b {x : Int32} (hd : decode M.2.1 pc = .ok (.i2b, 1)) (k : AW l M R G Qf A cs ss (pc + 1) ls (.int x.toInt8.toInt32 :: st)) : AW l M R G Qf A cs ss pc ls (.int x :: st) := by
  intro p e s m args below meth c H locs la hF hM
  exact lv_i2b hF.1.1 hF.1.2.1 hd rfl (k p e s m args below meth c H locs la hF hM)
theorem AW_i2s {x : Int32} (hd : decode M.2.1 pc = .ok (.i2s, 1)) (k : AW l M R G Qf A cs ss (pc + 1) ls (.int x.toInt16.toInt32 :: st)) : AW l M R G Qf A cs ss pc ls (.int x :: st) := by
  intro p e s m args below meth c H locs la hF hM
  exact lv_i2s hF.1.1 hF.1.2.1 hd rfl (k p e s m args below meth c H locs la hF hM)
theorem AW_i2c {x : Int32} (hd : decode M.2.1 pc = .ok (.i2c, 1)) (k : AW l M R G Qf A cs ss (pc + 1) ls (.int (x.toUInt32 % 65536).toInt32 :: st)) : AW l M R G Qf A cs ss pc ls (.int x :: st) := by
  intro p e s m args below meth c H locs la hF hM
  exact lv_i2c hF.1.1 hF.1.2.1 hd rfl (k p e s m args below meth c H locs la hF hM)
theorem AW_lcmp {x y : Int64} (hd : decode M.2.1 pc = .ok (.lcmp, 1)) (k : AW l M R G Qf A cs ss (pc + 1) ls (.int (lg_cmp x y) :: st)) : AW l M R G Qf A cs ss pc ls (.long y :: .long x :: st) := by
  intro p e s m args below meth c H locs la hF hM
  exact W.lcmp hF.1.1 hF.1.2.1 hd (k p e s m args below meth c H locs la hF hM)
theorem AW_null  (hd : decode M.2.1 pc = .ok (.aconst_null, 1)) (k : AW l M R G Qf A cs ss (pc + 1) ls (va_rf none :: st)) : AW l M R G Qf A cs ss pc ls (st) := by
  intro p e s m args below meth c H locs la hF hM
  exact lv_null hF.1.1 hF.1.2.1 hd (k p e s m args below meth c H locs la hF hM)
end AWR
