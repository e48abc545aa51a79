/-! the law: its script, its end -/
def R_law : String := "YesterdayScaleLaw"
def lw_P (b : Addr) (xs : List Int32) (args : Array Value) (s : State) : Prop := args = #[.ref b] ∧ s.IntsAt b xs ∧ xs.length ≤ 3072 ∧ (Jvm.Cond.and given_1 narrow_1).before args s = true
def lw_Q (_ : Array Value) (s : State) (o : Outcome) (t : State) : Prop := o = .returned (some (.int 1)) ∧ Framed s o t [] 600000 7302250
def lw_Z (below : List Frame) (a : Array Value) (s : State) : State → Prop := fun t => ∃ o, t.status = .running ∧ Ended t below o ∧ lw_Q a s o t
abbrev mL_law : gM := (yL_law, cL_law, 4, some .boolean, Cond.initialized RL :: gT)
def g_Sc (G : gS) (L : Nat) (xs : Nat → Int32) : Prop := G.2.2.1 301 = L ∧ ∀ j, Int32.ofNat (G.2.2.1 (1000 + j)) = xs j
def oX (L : Nat) (xs : Nat → Int32) (i : Int32) : Option Int32 := if i < 0 ∨ L ≤ i.toNatClampNeg then none else some (xs i.toNatClampNeg)
def g_Ql (G : gS) : Array Value → State → List Frame → State → Prop := fun args s below t => s.heap.size ≤ G.1 → lw_Z below args s t
section AWL
variable {l : Launch} {M : gM} {R : Room} {G : gS} {Qf : Array Value → State → List Frame → State → Prop} {A : hP} {cs ss pc : Nat} {ls : List (Option Value)} {st : List Value} {β : Type} {res : β}
theorem AW_slen {L : Nat} {xs : Nat → Int32} (hG : g_Sc G L xs) (hd : decode M.2.1 pc = .ok (.arraylength, 1)) (k : AW l M R G Qf A cs ss (pc + 1) ls (.int (Int32.ofNat L) :: st)) : AW l M R G Qf A cs ss pc ls (va_rf (some 1000300) :: st) := by
  intro p e s m args below meth c H locs la hF hM
  have h6 := k p e s m args below meth c H locs la hF hM
  obtain ⟨x1, x2, x3⟩ := hF.2.2.1.2.2.2.2.2.2.2.2.2
  rw [List.map_cons, show (1000300 : Nat) = 1000000 + 300 from rfl, g_old]
  rw [← hG.1] at h6
  exact va_slen hF.1.1 hF.1.2.1 x1 x2 x3 hM.2.2.2.1 hd h6
theorem AW_sld {L : Nat} {xs : Nat → Int32} {i : Int32} {f : Int32 → Option β} (hG : g_Sc G L xs) (hd : decode M.2.1 pc = .ok (.iaload, 1)) (h : (oX L xs i).bind f = some res) (k : ∀ x, oX L xs i = some x → f x = some res → AW l M R G Qf A cs ss (pc + 1) ls (.int x :: st)) : AW l M R G Qf A cs ss pc ls (.int i :: va_rf (some 1000300) :: st) := by
  intro p e s m args below meth c H locs la hF hM
  obtain ⟨x, h1, h2⟩ := bd h
  have h6 := k x h1 h2 p e s m args below meth c H locs la hF hM
  obtain ⟨x1, x2, x3⟩ := hF.2.2.1.2.2.2.2.2.2.2.2.2
  unfold oX at h1
  split at h1
  · cases h1
  rename_i hi
  cases h1
  rw [List.map_cons, List.map_cons, show (1000300 : Nat) = 1000000 + 300 from rfl, g_old]
  rw [← hG.2] at h6
  exact va_sld hF.1.1 hF.1.2.1 x1 x2 x3 hM.2.2.2.1 (by rw [hG.1]; exact hi) hd h6
/-- the law's end: true -/
theorem AW_law1 {res : Int32 × hP} {x : Int32} (hd : decode M.2.1 pc = .ok (.ireturn, 1)) (hr : M.2.2.2.1 = some .boolean) (hc : cs ≤ 600000 ∧ ss ≤ 7302250) (h : (if x = 1 then some (x, A) else none) = some res) : AW l M room_1 G (g_Ql G) A cs ss pc ls [.int x] := by
  intro p e s m args below meth c H locs la hF hM
  split at h
  case isFalse => cases h
  rename_i hx
  subst hx
  by_cases hsz : s.heap.size ≤ G.1
  case neg =>
    intro T hT X
    exact ⟨_, Steps.refl _, fun h => absurd h hsz⟩
  refine W.widen hc.1 hc.2 ?_
  refine va_forget (fun q hq => Nat.le_trans hsz (hM.2.2.2.1.2.2 q hq)) ?_
  show W p l e room_1 s m args below meth c H [] 600000 7302250 (g_Ql G args s below) (F0 m pc la [.int 1])
  intro T hT X
  obtain ⟨fs, hret, hrun, hended, hW, hframe⟩ := X.leave (v := some (.int 1)) (hlocks := hF.1.2.2.2.2.2.2.1) (fun h => by rw [hF.1.2.2.1, hr] at h; cases h)
  have hmeth' : T.vm.method? m = some meth := X.method'
  refine ⟨T.setFrames fs, ?_, fun _ => ⟨.returned (some (.int 1)), hrun, hended, rfl, ⟨_, rfl⟩, hW, hframe⟩⟩
  have hr2 := hF.1.2.2.1.trans hr
  jvm_step X.here [X.here.top, hF.1.1, hF.1.2.1, hd, hmeth', hr2, narrow_b1]
  (try refine ⟨rfl, ?_⟩); (try refine ⟨rfl, ?_⟩)
  first | (intro acts; rw [hret _ acts rfl rfl rfl]) | rw [hret _ _ rfl rfl rfl]
  exact Steps.refl _
end AWL
