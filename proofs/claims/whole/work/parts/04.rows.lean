section AWS
variable {l : Launch} {M : gM} {R : Room} {G : gS} {Qf : Array Value → State → List Frame → State → Prop} {A : hP} {cs ss pc : Nat} {ls : List (Option Value)} {st : List Value} {β : Type} {res : β}
theorem g_ref {nL : Nat} {s : State} {H : Heap} {locs : List Loc} {la : Array Slot} {q : Nat} {c0 : va_E} (hM : g_V nL G A s H locs ls la) (h : A[q]? = some c0) : g_em G (va_rf (some q)) = .ref (G.1 + q) := by
  show Value.ref (g_ad G q) = _
  rw [g_ad_lt G (Nat.lt_of_lt_of_le (g_lt h) hM.2.2.1)]
theorem AW_getT {k0 i : Nat} {r : Option Nat} {f : Int32 → Option β} {nm : String} (hk : k0 = 0 ∧ nm = "number" ∨ k0 = 1 ∧ nm = "weight") (hT : ∀ w ∈ gT, w ∈ M.2.2.2.2) (hd : decode M.2.1 pc = .ok (.getfield i, 3)) (hlk : Cond.fieldLink M.1.cls i "YesterdayScale$Thing" nm "I" ∈ M.2.2.2.2) (h : (oT A r k0).bind f = some res) (k : ∀ x, oT A r k0 = some x → f x = some res → AW l M R G Qf A cs ss (pc + 3) ls (.int x :: st)) : AW l M R G Qf A cs ss pc ls (va_rf r :: st) := by
  intro p e s m args below meth c H locs la hF hM
  obtain ⟨x, h1, h2⟩ := bd h
  obtain ⟨q, ci, fs, rfl, h4, h7, h5⟩ := oT_s h1
  have h6 := k x h1 h2 p e s m args below meth c H locs la hF hM
  rw [List.map_cons, g_ref hM h4]
  have hv : (fs.map (g_em G))[k0]? = some (.int x) := by simp [h5, g_em]
  have hc : ci = 1 ∨ ci = 4 ∨ ci = 5 ∨ ci = 7 ∨ ci = 8 := by
    unfold isTh at h7
    simp only [Bool.or_eq_true, beq_iff_eq] at h7
    omega
  rcases hk with ⟨rfl, rfl⟩ | ⟨rfl, rfl⟩
  · rcases hc with rfl | rfl | rfl | rfl | rfl
    · exact va_get (C := RX1) (T := TX1) (N := 2) hF.1.1 hF.1.2.1 hF.1.2.2.2.2.2.1 (fun w h => hT w (tU_X1 w h)) hF.1.2.2.2.2.1 hF.2.1 hM.1 q (g_ws_get G h4) rfl 0 (by decide) (hF.1.2.2.2.2.2.1 _ hlk) (fun _ h => h) (v := .int x) hv hd h6
    · exact va_get (C := RX4) (T := TX4) (N := 2) hF.1.1 hF.1.2.1 hF.1.2.2.2.2.2.1 (fun w h => hT w (tU_X4 w h)) hF.1.2.2.2.2.1 hF.2.1 hM.1 q (g_ws_get G h4) rfl 0 (by decide) (hF.1.2.2.2.2.2.1 _ hlk) (fun _ h => h) (v := .int x) hv hd h6
    · exact va_get (C := RX5) (T := TX5) (N := 2) hF.1.1 hF.1.2.1 hF.1.2.2.2.2.2.1 (fun w h => hT w (tU_X5 w h)) hF.1.2.2.2.2.1 hF.2.1 hM.1 q (g_ws_get G h4) rfl 0 (by decide) (hF.1.2.2.2.2.2.1 _ hlk) (fun _ h => h) (v := .int x) hv hd h6
    · exact va_get (C := RX8) (T := TX8) (N := 2) hF.1.1 hF.1.2.1 hF.1.2.2.2.2.2.1 (fun w h => hT w (tU_X8 w h)) hF.1.2.2.2.2.1 hF.2.1 hM.1 q (g_ws_get G h4) rfl 0 (by decide) (hF.1.2.2.2.2.2.1 _ hlk) (fun _ h => h) (v := .int x) hv hd h6
    · exact va_get (C := RX9) (T := TX9) (N := 2) hF.1.1 hF.1.2.1 hF.1.2.2.2.2.2.1 (fun w h => hT w (tU_X9 w h)) hF.1.2.2.2.2.1 hF.2.1 hM.1 q (g_ws_get G h4) rfl 0 (by decide) (hF.1.2.2.2.2.2.1 _ hlk) (fun _ h => h) (v := .int x) hv hd h6
  · rcases hc with rfl | rfl | rfl | rfl | rfl
    · exact va_get (C := RX1) (T := TX1) (N := 2) hF.1.1 hF.1.2.1 hF.1.2.2.2.2.2.1 (fun w h => hT w (tU_X1 w h)) hF.1.2.2.2.2.1 hF.2.1 hM.1 q (g_ws_get G h4) rfl 1 (by decide) (hF.1.2.2.2.2.2.1 _ hlk) (fun _ h => h) (v := .int x) hv hd h6
    · exact va_get (C := RX4) (T := TX4) (N := 2) hF.1.1 hF.1.2.1 hF.1.2.2.2.2.2.1 (fun w h => hT w (tU_X4 w h)) hF.1.2.2.2.2.1 hF.2.1 hM.1 q (g_ws_get G h4) rfl 1 (by decide) (hF.1.2.2.2.2.2.1 _ hlk) (fun _ h => h) (v := .int x) hv hd h6
    · exact va_get (C := RX5) (T := TX5) (N := 2) hF.1.1 hF.1.2.1 hF.1.2.2.2.2.2.1 (fun w h => hT w (tU_X5 w h)) hF.1.2.2.2.2.1 hF.2.1 hM.1 q (g_ws_get G h4) rfl 1 (by decide) (hF.1.2.2.2.2.2.1 _ hlk) (fun _ h => h) (v := .int x) hv hd h6
    · exact va_get (C := RX8) (T := TX8) (N := 2) hF.1.1 hF.1.2.1 hF.1.2.2.2.2.2.1 (fun w h => hT w (tU_X8 w h)) hF.1.2.2.2.2.1 hF.2.1 hM.1 q (g_ws_get G h4) rfl 1 (by decide) (hF.1.2.2.2.2.2.1 _ hlk) (fun _ h => h) (v := .int x) hv hd h6
    · exact va_get (C := RX9) (T := TX9) (N := 2) hF.1.1 hF.1.2.1 hF.1.2.2.2.2.2.1 (fun w h => hT w (tU_X9 w h)) hF.1.2.2.2.2.1 hF.2.1 hM.1 q (g_ws_get G h4) rfl 1 (by decide) (hF.1.2.2.2.2.2.1 _ hlk) (fun _ h => h) (v := .int x) hv hd h6
/-- a store into a field: not final, or final in a constructor of its own class -/
theorem AW_put {ci k0 N i : Nat} {C : String} {T : u_T} {ty0 : Nat → FieldType} {r : Option Nat} {v : Value} {f : hP → Option β} (hd : decode M.2.1 pc = .ok (.putfield i, 3)) (hc : vwCl[ci]? = some (C, T, N)) (hin : ∀ w ∈ u_ws C T N, w ∈ M.2.2.2.2) (hty : ∀ k, k < N → parseFieldDescriptor (T k).2.2.1 = some (ty0 k)) (hnm : ∀ a, a < N → ∀ b, b < N → a ≠ b → (T a).2.1 ≠ (T b).2.1) (hk : k0 < N) (hlk : Cond.fieldLink M.1.cls i (T k0).1 (T k0).2.1 (T k0).2.2.1 ∈ M.2.2.2.2) (hfin : (T k0).2.2.2 = false ∨ (T k0).2.2.2 = true ∧ M.1.name = "<init>" ∧ (T k0).1 = M.1.cls) (hn : narrow (ty0 k0) (g_em G v) = g_em G v) (hfit : fits (ty0 k0) (g_em G v) = true) (h : (oP A r ci k0 v).bind f = some res) (k : ∀ A', oP A r ci k0 v = some A' → f A' = some res → AW l M R G Qf A' cs ss (pc + 3) ls st) : AW l M R G Qf A cs ss pc ls (v :: va_rf r :: st) := by
  intro p e s m args below meth c H locs la hF hM
  obtain ⟨A', h1, h2⟩ := bd h
  have h6 := k A' h1 h2
  obtain ⟨q, fs, rfl, h4, h5, rfl⟩ := oP_s h1
  have hts := hF.1.2.2.2.2.2.1
  have hap := va_apart (own := M.1.cls) hts hin ty0 hty hnm hF.2.1 hc
  have hw := g_ws_get G h4
  rw [List.map_cons, List.map_cons, g_ref hM h4]
  obtain ⟨r, h1', cell, q1, q2, q3, q4⟩ := hM.1 q _ hw
  have hr : r = (C, T, N) := Option.some.inj (h1'.symm.trans hc)
  subst hr
  obtain ⟨hS, hfc, kC, hkC, hkind⟩ := hF.2.1.1 ci _ hc
  obtain ⟨cf, kf, fi, fd, hi, hsl⟩ := hS k0 hk
  have hlay := hts _ (hin _ (u_in_lay hk))
  have hst := (u_facts hfc hkC (u_lays hts hin hk) hi).1
  have hgo : ∀ H' : Heap, H'[G.1 + q]? = some (cell.setSlot fd.slot (g_em G v)) → H'.size = H.size → (∀ x, x ≠ G.1 + q → H'[x]? = H[x]?) → W p l e R s m args below meth c H' (locs ++ [⟨G.1 + q, fd.slot⟩]) cs ss (Qf args s below) (F0 m (pc + 3) la (st.map (g_em G))) := by
    intro H' e1 e2 e3
    refine h6 p e s m args below meth c H' _ la hF (g_V.put hM h4 ?_ (hM.2.2.2.1.put e2 e3 (Nat.le_add_right _ _)) e2)
    refine va_P.set hM.1 (g_D G A) hw ?_ e3
    rw [hsl] at e1
    refine ⟨_, hc, t_OB.to (V := updV (vp_V (fs.map (g_em G))) k0 (g_em G v)) ⟨_, e1, q2, q3, t_set q4 hap hk _⟩ (fun j _ => ?_)⟩
    show updV (vp_V (fs.map (g_em G))) k0 (g_em G v) j = vp_V ((fs.set k0 v).map (g_em G)) j
    rw [List.map_set]
    exact vp_updV_set (by simpa using h5) _ j
  rcases hfin with hfin | ⟨hfin, hini, hdecl⟩
  · unfold u_lay at hlay
    rw [if_neg (by rw [hfin]; decide)] at hlay
    have h8 := u_store hfc hkC hkind hlay hi (hty k0 hk) hn hfit
    exact W.putK hF.1.1 hF.1.2.1 (f := fd) ⟨hF.1.2.2.2.2.1, hts _ hlk, ⟨_, _, _, hi⟩, hst⟩ (by rw [q2]; exact h8) q1 q3 (by rw [hsl]; exact k2_hasslot (q4 k0 hk)) rfl rfl hd hgo
  · unfold u_lay at hlay
    rw [if_pos hfin] at hlay
    have hcf : m.cls = cf := by
      obtain ⟨_, _, c', _, _, _, -, -, hf', -, -, -, hown2, -⟩ := Cond.laysFinal_spec hlay
      have e1 : c' = cf := by have := hi.symm.trans hf'; simp at this; exact this.1.symm
      rw [hdecl] at hown2
      rw [← e1]; exact Option.some.inj (hF.1.2.2.2.2.1.symm.trans hown2)
    have h8 := u_fits hfc hkC hkind (Or.inr hlay) hi (hty k0 hk) hn hfit
    exact W.putFinK hF.1.1 hF.1.2.1 hF.1.2.2.2.2.1 (hts _ hlk) hi hst hcf (hF.1.2.2.2.2.2.2.2 hini) (by rw [q2]; exact h8) q1 q3 (by rw [hsl]; exact k2_hasslot (q4 k0 hk)) rfl rfl hd hgo
theorem nz_z {x : Int32} (h : x = 0 ∨ x = 1) : narrow .boolean (.int x) = .int x ∧ fits .boolean (.int x) = true := by rcases h with rfl | rfl <;> decide
theorem AW_putZ {ci k0 N i : Nat} {C : String} {T : u_T} {ty0 : Nat → FieldType} {r : Option Nat} {x : Int32} {f : hP → Option β} (hd : decode M.2.1 pc = .ok (.putfield i, 3)) (hc : vwCl[ci]? = some (C, T, N)) (hin : ∀ w ∈ u_ws C T N, w ∈ M.2.2.2.2) (hty : ∀ k, k < N → parseFieldDescriptor (T k).2.2.1 = some (ty0 k)) (hnm : ∀ a, a < N → ∀ b, b < N → a ≠ b → (T a).2.1 ≠ (T b).2.1) (hk : k0 < N) (hlk : Cond.fieldLink M.1.cls i (T k0).1 (T k0).2.1 (T k0).2.2.1 ∈ M.2.2.2.2) (hfin : (T k0).2.2.2 = false) (hz : ty0 k0 = .boolean) (h : (oPz A r ci k0 x).bind f = some res) (k : ∀ A', oP A r ci k0 (.int x) = some A' → f A' = some res → AW l M R G Qf A' cs ss (pc + 3) ls st) : AW l M R G Qf A cs ss pc ls (.int x :: va_rf r :: st) := by
  unfold oPz at h
  split at h
  · rename_i h9
    exact AW_put (v := .int x) hd hc hin hty hnm hk hlk (Or.inl hfin) (by rw [hz]; exact (nz_z h9).1) (by rw [hz]; exact (nz_z h9).2) h k
  · cases h
-- arrays
theorem AW_iald {r : Option Nat} {i : Int32} {f : Int32 → Option β} (hd : decode M.2.1 pc = .ok (.iaload, 1)) (h : (oA A r 0 i).bind f = some res) (k : ∀ x, oA A r 0 i = some x → f x = some res → AW l M R G Qf A cs ss (pc + 1) ls (.int x :: st)) : AW l M R G Qf A cs ss pc ls (.int i :: va_rf r :: st) := by
  intro p e s m args below meth c H locs la hF hM
  obtain ⟨x, h1, h2⟩ := bd h
  have h6 := k x h1 h2 p e s m args below meth c H locs la hF hM
  obtain ⟨q, n, g, rfl, h4, h5, rfl⟩ := oA_s h1
  rw [List.map_cons, List.map_cons, g_ref hM h4]
  exact va_iald hF.1.1 hF.1.2.1 hF.2.1 hM.1 q 0 (g_ws_get G h4) rfl h5 hd h6
theorem AW_bald {r : Option Nat} {i : Int32} {f : Int32 → Option β} (hd : decode M.2.1 pc = .ok (.baload, 1)) (h : (oA A r 1 i).bind f = some res) (k : ∀ x, oA A r 1 i = some x → f x = some res → AW l M R G Qf A cs ss (pc + 1) ls (.int x :: st)) : AW l M R G Qf A cs ss pc ls (.int i :: va_rf r :: st) := by
  intro p e s m args below meth c H locs la hF hM
  obtain ⟨x, h1, h2⟩ := bd h
  have h6 := k x h1 h2 p e s m args below meth c H locs la hF hM
  obtain ⟨q, n, g, rfl, h4, h5, rfl⟩ := oA_s h1
  rw [List.map_cons, List.map_cons, g_ref hM h4]
  exact va_bald hF.1.1 hF.1.2.1 hF.2.1 hM.1 q 1 (g_ws_get G h4) rfl h5 hd h6
theorem AW_zald {r : Option Nat} {i : Int32} {f : Int32 → Option β} (hd : decode M.2.1 pc = .ok (.baload, 1)) (h : (oA A r 2 i).bind f = some res) (k : ∀ x, oA A r 2 i = some x → f x = some res → AW l M R G Qf A cs ss (pc + 1) ls (.int x :: st)) : AW l M R G Qf A cs ss pc ls (.int i :: va_rf r :: st) := by
  intro p e s m args below meth c H locs la hF hM
  obtain ⟨x, h1, h2⟩ := bd h
  have h6 := k x h1 h2 p e s m args below meth c H locs la hF hM
  obtain ⟨q, n, g, rfl, h4, h5, rfl⟩ := oA_s h1
  rw [List.map_cons, List.map_cons, g_ref hM h4]
  exact va_zald hF.1.1 hF.1.2.1 hF.2.1 hM.1 q 2 (g_ws_get G h4) rfl h5 hd h6
theorem g_arr {i : Int32} {n : Nat} {f : Nat → Int32} {cA : ClassId} {x y : Int32} {v : Value} (hv : v = .int y) (hx : y = x) : (vp_cell cA (n, .inl f)).setSlot i.toNatClampNeg v = vp_cell cA (n, .inl (upd f i.toNatClampNeg x)) := by
  subst hv; subst hx
  rw [vp_cell_i, vp_cell_i, arrV_store]
  congr 2
  funext q
  by_cases hq : q = i.toNatClampNeg
  · subst hq; simp [updV, upd]
  · simp [updV, upd, hq]
theorem AW_iast {r : Option Nat} {i x : Int32} {f : hP → Option β} (hd : decode M.2.1 pc = .ok (.iastore, 1)) (h : (oS A r 0 i x).bind f = some res) (k : ∀ A', oS A r 0 i x = some A' → f A' = some res → AW l M R G Qf A' cs ss (pc + 1) ls st) : AW l M R G Qf A cs ss pc ls (.int x :: .int i :: va_rf r :: st) := by
  intro p e s m args below meth c H locs la hF hM
  obtain ⟨A', h1, h2⟩ := bd h
  have h6 := k A' h1 h2
  obtain ⟨q, n, g, rfl, h4, h5, rfl⟩ := oS_s h1
  have hw := g_ws_get G h4
  rw [List.map_cons, List.map_cons, List.map_cons, g_ref hM h4]
  refine W.iast hF.1.1 hF.1.2.1 (hM.1 q _ hw) ((hF.2.1.2 0 _ rfl).1 n (fun j => .int (g j))) (fun q => by cases q) (by show ¬ (i < 0 ∨ (arrV _ _ _).slots.size ≤ _); rw [arrV_size]; exact h5) rfl rfl hd fun H1 e1 z oq => ?_
  exact h6 p e s m args below meth c H1 _ la hF (g_V.put hM h4 (va_P.set hM.1 (g_D G A) hw (e1.trans (congrArg some (g_arr rfl rfl))) oq) (hM.2.2.2.1.put z oq (Nat.le_add_right _ _)) z)
theorem AW_bast {r : Option Nat} {i x : Int32} {f : hP → Option β} (hd : decode M.2.1 pc = .ok (.bastore, 1)) (h : (oS A r 1 i x.toInt8.toInt32).bind f = some res) (k : ∀ A', oS A r 1 i x.toInt8.toInt32 = some A' → f A' = some res → AW l M R G Qf A' cs ss (pc + 1) ls st) : AW l M R G Qf A cs ss pc ls (.int x :: .int i :: va_rf r :: st) := by
  intro p e s m args below meth c H locs la hF hM
  obtain ⟨A', h1, h2⟩ := bd h
  have h6 := k A' h1 h2
  obtain ⟨q, n, g, rfl, h4, h5, rfl⟩ := oS_s h1
  have hw := g_ws_get G h4
  rw [List.map_cons, List.map_cons, List.map_cons, g_ref hM h4]
  refine W.bast hF.1.1 hF.1.2.1 (hM.1 q _ hw) ((hF.2.1.2 1 _ rfl).1 n (fun j => .int (g j))) (fun q => by cases q) (by show ¬ (i < 0 ∨ (arrV _ _ _).slots.size ≤ _); rw [arrV_size]; exact h5) rfl rfl hd fun H1 e1 z oq => ?_
  exact h6 p e s m args below meth c H1 _ la hF (g_V.put hM h4 (va_P.set hM.1 (g_D G A) hw (e1.trans (congrArg some (g_arr rfl rfl))) oq) (hM.2.2.2.1.put z oq (Nat.le_add_right _ _)) z)
theorem AW_zast {r : Option Nat} {i x : Int32} {f : hP → Option β} (hd : decode M.2.1 pc = .ok (.bastore, 1)) (h : (if x = 0 ∨ x = 1 then (oS A r 2 i x).bind f else none) = some res) (k : ∀ A', oS A r 2 i x = some A' → f A' = some res → AW l M R G Qf A' cs ss (pc + 1) ls st) : AW l M R G Qf A cs ss pc ls (.int x :: .int i :: va_rf r :: st) := by
  intro p e s m args below meth c H locs la hF hM
  split at h
  case isFalse => cases h
  rename_i h9
  obtain ⟨A', h1, h2⟩ := bd h
  have h6 := k A' h1 h2
  obtain ⟨q, n, g, rfl, h4, h5, rfl⟩ := oS_s h1
  have hw := g_ws_get G h4
  rw [List.map_cons, List.map_cons, List.map_cons, g_ref hM h4]
  refine W.zast hF.1.1 hF.1.2.1 (hM.1 q _ hw) ((hF.2.1.2 2 _ rfl).1 n (fun j => .int (g j))) (fun q => by cases q) (by show ¬ (i < 0 ∨ (arrV _ _ _).slots.size ≤ _); rw [arrV_size]; exact h5) rfl rfl hd fun H1 e1 z oq => ?_
  exact h6 p e s m args below meth c H1 _ la hF (g_V.put hM h4 (va_P.set hM.1 (g_D G A) hw (e1.trans (congrArg some (g_arr (nz_z h9).1 rfl))) oq) (hM.2.2.2.1.put z oq (Nat.le_add_right _ _)) z)
theorem AW_alen {r : Option Nat} {f : Int32 → Option β} {t : Nat} (ht : t < 3) (hd : decode M.2.1 pc = .ok (.arraylength, 1)) (h : (oN A r t).bind f = some res) (k : ∀ x, oN A r t = some x → f x = some res → AW l M R G Qf A cs ss (pc + 1) ls (.int x :: st)) : AW l M R G Qf A cs ss pc ls (va_rf r :: st) := by
  intro p e s m args below meth c H locs la hF hM
  obtain ⟨x, h1, h2⟩ := bd h
  have h6 := k x h1 h2 p e s m args below meth c H locs la hF hM
  obtain ⟨q, n, g, rfl, h4, rfl⟩ := oN_s h1
  rw [List.map_cons, g_ref hM h4]
  rcases (show t = 0 ∨ t = 1 ∨ t = 2 by omega) with rfl | rfl | rfl
  · exact va_alen hF.1.1 hF.1.2.1 hF.2.1 hM.1 q 0 (g_ws_get G h4) (ty := .int) rfl rfl hd h6
  · exact va_alen hF.1.1 hF.1.2.1 hF.2.1 hM.1 q 1 (g_ws_get G h4) (ty := .byte) rfl rfl hd h6
  · exact va_alen hF.1.1 hF.1.2.1 hF.2.1 hM.1 q 2 (g_ws_get G h4) (ty := .boolean) rfl rfl hd h6
theorem AW_aald {r : Option Nat} {i : Int32} {t : Nat} {C : String} {f : Option Nat → Option β} (ht : ∀ G : gS, (g_ty G)[t]? = some (G.2.2.2 t, .object C)) (hd : decode M.2.1 pc = .ok (.aaload, 1)) (h : (oQ A r t i).bind f = some res) (k : ∀ x, oQ A r t i = some x → f x = some res → AW l M R G Qf A cs ss (pc + 1) ls (va_rf x :: st)) : AW l M R G Qf A cs ss pc ls (.int i :: va_rf r :: st) := by
  intro p e s m args below meth c H locs la hF hM
  obtain ⟨x, h1, h2⟩ := bd h
  have h6 := k x h1 h2 p e s m args below meth c H locs la hF hM
  obtain ⟨q, n, g, rfl, h4, h5, rfl⟩ := oQ_s h1
  rw [List.map_cons, List.map_cons, g_ref hM h4]
  rw [List.map_cons, g_em_rf] at h6
  exact va_aldq hF.1.1 hF.1.2.1 hF.2.1 hM.1 q t (g_ws_get G h4) (ht G) h5 hd h6
theorem g_arq {i : Int32} {n : Nat} {f : Nat → Option Nat} {cA : ClassId} {v : Option Nat} : (vp_cell cA (n, .inr (.inr (.inr (.inr fun j => (f j).map (g_ad G)))))).setSlot i.toNatClampNeg (va_rf (v.map (g_ad G))) = vp_cell cA (n, .inr (.inr (.inr (.inr fun j => (va_up f i.toNatClampNeg v j).map (g_ad G))))) := by
  rw [vp_cell_q, vp_cell_q, arrV_store]
  congr 2
  funext q
  by_cases hq : q = i.toNatClampNeg
  · subst hq; simp [updV, va_up]
  · simp [updV, va_up, hq]
/-- a reference into a row of references: null, or an object of a class that may lie there -/
theorem AW_aast {r v : Option Nat} {i : Int32} {t : Nat} {C : String} {f : hP → Option β} (ht : ∀ G : gS, (g_ty G)[t]? = some (G.2.2.2 t, .object C)) (hd : decode M.2.1 pc = .ok (.aastore, 1)) (hok : ∀ q, v = some q → ∃ ci fs cl, A[q]? = some (.inr (ci, fs)) ∧ vwCl[ci]? = some cl ∧ (cl.1 = C ∨ (cl.1, C) ∈ g_yes)) (h : (oU A r t i v).bind f = some res) (k : ∀ A', oU A r t i v = some A' → f A' = some res → AW l M R G Qf A' cs ss (pc + 1) ls st) : AW l M R G Qf A cs ss pc ls (va_rf v :: .int i :: va_rf r :: st) := by
  intro p e s m args below meth c H locs la hF hM
  obtain ⟨A', h1, h2⟩ := bd h
  have h6 := k A' h1 h2
  obtain ⟨q, n, g, rfl, h4, h5, rfl⟩ := oU_s h1
  have hw := g_ws_get G h4
  rw [List.map_cons, List.map_cons, List.map_cons, g_ref hM h4]
  have hlt : i.toNatClampNeg < n := Nat.not_le.mp fun q => h5 (Or.inr q)
  have h0 : ¬ i < 0 := fun q => h5 (Or.inl q)
  have hfin : ∀ (H1 : Heap), H1[G.1 + q]? = some ((vp_cell (G.2.2.2 t) (n, .inr (.inr (.inr (.inr fun j => (g j).map (g_ad G)))))).setSlot i.toNatClampNeg (va_rf (v.map (g_ad G)))) → H1.size = H.size → (∀ x, x ≠ G.1 + q → H1[x]? = H[x]?) → W p l e R s m args below meth c H1 (locs ++ [⟨G.1 + q, i.toNatClampNeg⟩]) cs ss (Qf args s below) (F0 m (pc + 1) la (st.map (g_em G))) := by
    intro H1 e1 z oq
    exact h6 p e s m args below meth c H1 _ la hF (g_V.put hM h4 (va_P.set hM.1 (g_D G A) hw (e1.trans (congrArg some g_arq)) oq) (hM.2.2.2.1.put z oq (Nat.le_add_right _ _)) z)
  cases v with
  | none =>
    exact va_WaastN (C := C) hF.1.1 hF.1.2.1 (hM.1 q _ hw) ((hF.2.1.2 t _ (ht G)).1 n (fun j => va_rf ((g j).map (g_ad G)))) (fun h => by cases h) (by show ¬ (i < 0 ∨ (arrV _ _ _).slots.size ≤ _); rw [arrV_size]; exact h5) rfl rfl hd hfin
  | some v =>
    obtain ⟨ci, fs, cl, hv1, hv2, hv3⟩ := hok v rfl
    have hvw := g_ws_get G hv1
    obtain ⟨r', hr', cellV, g1, g2, g3, -⟩ := hM.1 v _ hvw
    have hcls := (hF.2.1.1 ci cl hv2).2
    obtain ⟨kA, comp, k1, k2, k3, -⟩ := (hF.2.1.2 t _ (ht G)).2
    obtain ⟨kE, hkE, -⟩ := Vm.findClass_spec k3
    obtain ⟨kC, hkC, -⟩ := hcls.2
    have hasg : s.vm.assignable cellV.cls comp = true := by
      rw [g2]
      rcases hv3 with rfl | hv3
      · have hcomp : comp = G.2.1.1 ci := Option.some.inj (k3.symm.trans hcls.1)
        rw [hcomp]; exact va_assign hcls
      · obtain ⟨c0, t1, f1, f2, f3⟩ := Cond.castable_spec (va_Nw.use (A := args) rfl (hF.2.2.1.2.1 _ hv3))
        cases hcls.1.symm.trans f1
        cases k3.symm.trans f2
        exact f3
    have hr : g_em G (va_rf (some v)) = .ref (G.1 + v) := g_ref hM hv1
    rw [hr]
    have hr2 : va_rf ((some v).map (g_ad G)) = .ref (G.1 + v) := by rw [← g_em_rf]; exact hr
    rw [hr2] at hfin
    exact W.aast hF.1.1 hF.1.2.1 (hM.1 q _ hw) (fun q h => by cases h) (fun h => by cases h) k1 k2 rfl hkE ⟨h0, by show _ < (arrV _ _ _).slots.size; rw [arrV_size]; exact hlt⟩ g1 (fun q h => by rw [g3] at h; cases h) (by rw [g2]; exact hkC) hasg rfl rfl hd hfin
/-- instanceof, of a thing -/
theorem AW_inst {r : Option Nat} {i tc : Nat} {nm : String} {f : Nat → Option β} (hd : decode M.2.1 pc = .ok (.instanceof i, 3)) (hlk : Cond.classLink M.1.cls i nm ∈ M.2.2.2.2)
    (htab : ∀ ci, isTh ci = true → ∃ cl, vwCl[ci]? = some cl ∧ (isOf ci tc = true ∧ (cl.1 = nm ∨ (cl.1, nm) ∈ g_yes) ∨ isOf ci tc = false ∧ (cl.1, nm) ∈ g_no))
    (h : (oC A r).bind f = some res) (hth : ∀ c, oC A r = some c → isTh c = true) (k : ∀ c, oC A r = some c → f c = some res → AW l M R G Qf A cs ss (pc + 3) ls (.int (if isOf c tc then 1 else 0) :: st)) : AW l M R G Qf A cs ss pc ls (va_rf r :: st) := by
  intro p e s m args below meth c H locs la hF hM
  obtain ⟨ci, h1, h2⟩ := bd h
  have h6 := k ci h1 h2 p e s m args below meth c H locs la hF hM
  have h3 := hth ci h1
  obtain ⟨q, fs, rfl, h4⟩ := oC_s h1
  obtain ⟨cl, hcl, hh⟩ := htab ci h3
  rw [List.map_cons, g_ref hM h4]
  have hrec := va_recv hF.2.1 hM.1 hcl (g_ws_get G h4)
  have hl := hF.1.2.2.2.2.2.1 _ hlk
  rcases hh with ⟨e1, h7⟩ | ⟨e1, h7⟩
  · rw [e1] at h6
    rcases h7 with rfl | h7
    · exact va_instS hF.1.1 hF.1.2.1 hF.1.2.2.2.2.1 hl (hF.2.1.1 ci cl hcl).2 hrec hd h6
    · exact va_instY hF.1.1 hF.1.2.1 hF.1.2.2.2.2.1 hl (hF.2.2.1.2.1 _ h7) hrec hd h6
  · rw [e1] at h6
    exact va_instNo hF.1.1 hF.1.2.1 hF.1.2.2.2.2.1 hl (hF.2.2.1.2.2.1 _ h7) hrec hd h6
end AWS
