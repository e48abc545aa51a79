theorem gT_s {c : Cond} : ∀ w ∈ gT, w ∈ c :: gT := fun _ h => List.mem_cons_of_mem _ h
theorem gT_u {c : Cond} {ws : List Cond} (h : ∀ w ∈ ws, w ∈ gT) : ∀ w ∈ ws, w ∈ c :: gT := fun w hw => List.mem_cons_of_mem _ (h w hw)
set_option maxRecDepth 20000 in
theorem selp_X11_found : Cond.selects RX11 yX11_found yX11_found ∈ gT := gT_in 0 (by decide +kernel) (by decide +kernel)
set_option maxRecDepth 20000 in
theorem selp_X11_passed : Cond.selects RX11 yX11_passed yX11_passed ∈ gT := gT_in 1 (by decide +kernel) (by decide +kernel)
set_option maxRecDepth 20000 in
theorem selp_X6_advance : Cond.selects RX6 yX6_advance yX6_advance ∈ gT := gT_in 2 (by decide +kernel) (by decide +kernel)
set_option maxRecDepth 20000 in
theorem selp_X6_readLaw : Cond.selects RX6 yX6_readLaw yX6_readLaw ∈ gT := gT_in 3 (by decide +kernel) (by decide +kernel)
set_option maxRecDepth 20000 in
theorem selp_X6_takeWord : Cond.selects RX6 yX6_takeWord yX6_takeWord ∈ gT := gT_in 4 (by decide +kernel) (by decide +kernel)
set_option maxRecDepth 20000 in
theorem selp_X6_isWord : Cond.selects RX6 yX6_isWord yX6_isWord ∈ gT := gT_in 5 (by decide +kernel) (by decide +kernel)
set_option maxRecDepth 20000 in
theorem selp_X6_fail : Cond.selects RX6 yX6_fail yX6_fail ∈ gT := gT_in 6 (by decide +kernel) (by decide +kernel)
set_option maxRecDepth 20000 in
theorem selp_X6_takeNumber : Cond.selects RX6 yX6_takeNumber yX6_takeNumber ∈ gT := gT_in 7 (by decide +kernel) (by decide +kernel)
set_option maxRecDepth 20000 in
theorem selp_X6_numberRead : Cond.selects RX6 yX6_numberRead yX6_numberRead ∈ gT := gT_in 8 (by decide +kernel) (by decide +kernel)
set_option maxRecDepth 20000 in
theorem selp_X6_takeSemicolon : Cond.selects RX6 yX6_takeSemicolon yX6_takeSemicolon ∈ gT := gT_in 9 (by decide +kernel) (by decide +kernel)
set_option maxRecDepth 20000 in
theorem selp_X6_readThings : Cond.selects RX6 yX6_readThings yX6_readThings ∈ gT := gT_in 10 (by decide +kernel) (by decide +kernel)
set_option maxRecDepth 20000 in
theorem selp_X6_readThing : Cond.selects RX6 yX6_readThing yX6_readThing ∈ gT := gT_in 11 (by decide +kernel) (by decide +kernel)
set_option maxRecDepth 20000 in
theorem selp_X6_sortNamed : Cond.selects RX6 yX6_sortNamed yX6_sortNamed ∈ gT := gT_in 12 (by decide +kernel) (by decide +kernel)
set_option maxRecDepth 20000 in
theorem selp_X6_readDays : Cond.selects RX6 yX6_readDays yX6_readDays ∈ gT := gT_in 13 (by decide +kernel) (by decide +kernel)
set_option maxRecDepth 20000 in
theorem selp_X6_readEnd : Cond.selects RX6 yX6_readEnd yX6_readEnd ∈ gT := gT_in 14 (by decide +kernel) (by decide +kernel)
set_option maxRecDepth 20000 in
theorem selp_X2_shownBy : Cond.selects RX2 yX2_shownBy yX2_shownBy ∈ gT := gT_in 15 (by decide +kernel) (by decide +kernel)
set_option maxRecDepth 20000 in
theorem selp_X11_refusalToTell : Cond.selects RX11 yX11_refusalToTell yX11_refusalToTell ∈ gT := gT_in 16 (by decide +kernel) (by decide +kernel)
set_option maxRecDepth 20000 in
theorem selp_X10_take : Cond.selects RX10 yX10_take yX10_take ∈ gT := gT_in 17 (by decide +kernel) (by decide +kernel)
set_option maxRecDepth 20000 in
theorem selp_X10_takeDay : Cond.selects RX10 yX10_takeDay yX10_takeDay ∈ gT := gT_in 18 (by decide +kernel) (by decide +kernel)
set_option maxRecDepth 20000 in
theorem selp_X10_isFitting : Cond.selects RX10 yX10_isFitting yX10_isFitting ∈ gT := gT_in 19 (by decide +kernel) (by decide +kernel)
set_option maxRecDepth 20000 in
theorem selp_X10_shownIn : Cond.selects RX10 yX10_shownIn yX10_shownIn ∈ gT := gT_in 20 (by decide +kernel) (by decide +kernel)
set_option maxRecDepth 20000 in
theorem selp_X10_falseIn : Cond.selects RX10 yX10_falseIn yX10_falseIn ∈ gT := gT_in 21 (by decide +kernel) (by decide +kernel)
set_option maxRecDepth 20000 in
theorem selp_X10_gatherTrue : Cond.selects RX10 yX10_gatherTrue yX10_gatherTrue ∈ gT := gT_in 22 (by decide +kernel) (by decide +kernel)
set_option maxRecDepth 20000 in
theorem selp_X10_findOneDay : Cond.selects RX10 yX10_findOneDay yX10_findOneDay ∈ gT := gT_in 23 (by decide +kernel) (by decide +kernel)
set_option maxRecDepth 20000 in
theorem selp_X10_isAlone : Cond.selects RX10 yX10_isAlone yX10_isAlone ∈ gT := gT_in 24 (by decide +kernel) (by decide +kernel)
set_option maxRecDepth 20000 in
theorem selp_X10_findTwoDays : Cond.selects RX10 yX10_findTwoDays yX10_findTwoDays ∈ gT := gT_in 25 (by decide +kernel) (by decide +kernel)
set_option maxRecDepth 20000 in
theorem selp_X10_bringForward : Cond.selects RX10 yX10_bringForward yX10_bringForward ∈ gT := gT_in 26 (by decide +kernel) (by decide +kernel)
set_option maxRecDepth 20000 in
theorem selp_X2_tellsBy : Cond.selects RX2 yX2_tellsBy yX2_tellsBy ∈ gT := gT_in 27 (by decide +kernel) (by decide +kernel)
set_option maxRecDepth 20000 in
theorem selp_X11_howManyRows : Cond.selects RX11 yX11_howManyRows yX11_howManyRows ∈ gT := gT_in 28 (by decide +kernel) (by decide +kernel)
set_option maxRecDepth 20000 in
theorem selp_X12_finding : Cond.selects RX12 yX12_finding yX12_finding ∈ gT := gT_in 29 (by decide +kernel) (by decide +kernel)
set_option maxRecDepth 20000 in
theorem selp_X12_begin : Cond.selects RX12 yX12_begin yX12_begin ∈ gT := gT_in 30 (by decide +kernel) (by decide +kernel)
set_option maxRecDepth 20000 in
theorem selp_X12_nextToken : Cond.selects RX12 yX12_nextToken yX12_nextToken ∈ gT := gT_in 31 (by decide +kernel) (by decide +kernel)
set_option maxRecDepth 20000 in
theorem selp_X12_byteAt : Cond.selects RX12 yX12_byteAt yX12_byteAt ∈ gT := gT_in 32 (by decide +kernel) (by decide +kernel)
set_option maxRecDepth 20000 in
theorem selp_X12_name : Cond.selects RX12 yX12_name yX12_name ∈ gT := gT_in 33 (by decide +kernel) (by decide +kernel)
set_option maxRecDepth 20000 in
theorem selp_X12_must : Cond.selects RX12 yX12_must yX12_must ∈ gT := gT_in 34 (by decide +kernel) (by decide +kernel)
set_option maxRecDepth 20000 in
theorem selp_X12_bad : Cond.selects RX12 yX12_bad yX12_bad ∈ gT := gT_in 35 (by decide +kernel) (by decide +kernel)
set_option maxRecDepth 20000 in
theorem selp_X12_number : Cond.selects RX12 yX12_number yX12_number ∈ gT := gT_in 36 (by decide +kernel) (by decide +kernel)
set_option maxRecDepth 20000 in
theorem selp_X12_figures : Cond.selects RX12 yX12_figures yX12_figures ∈ gT := gT_in 37 (by decide +kernel) (by decide +kernel)
set_option maxRecDepth 20000 in
theorem selp_X12_mustEnd : Cond.selects RX12 yX12_mustEnd yX12_mustEnd ∈ gT := gT_in 38 (by decide +kernel) (by decide +kernel)
set_option maxRecDepth 20000 in
theorem selp_X12_readThing : Cond.selects RX12 yX12_readThing yX12_readThing ∈ gT := gT_in 39 (by decide +kernel) (by decide +kernel)
set_option maxRecDepth 20000 in
theorem selp_X12_begins : Cond.selects RX12 yX12_begins yX12_begins ∈ gT := gT_in 40 (by decide +kernel) (by decide +kernel)
set_option maxRecDepth 20000 in
theorem selp_X12_readDay : Cond.selects RX12 yX12_readDay yX12_readDay ∈ gT := gT_in 41 (by decide +kernel) (by decide +kernel)
set_option maxRecDepth 20000 in
theorem selp_X12_isThere : Cond.selects RX12 yX12_isThere yX12_isThere ∈ gT := gT_in 42 (by decide +kernel) (by decide +kernel)
set_option maxRecDepth 20000 in
theorem selp_X12_isSet : Cond.selects RX12 yX12_isSet yX12_isSet ∈ gT := gT_in 43 (by decide +kernel) (by decide +kernel)
set_option maxRecDepth 20000 in
theorem selp_X12_layTruly : Cond.selects RX12 yX12_layTruly yX12_layTruly ∈ gT := gT_in 44 (by decide +kernel) (by decide +kernel)
set_option maxRecDepth 20000 in
theorem selp_X12_shows : Cond.selects RX12 yX12_shows yX12_shows ∈ gT := gT_in 45 (by decide +kernel) (by decide +kernel)
set_option maxRecDepth 20000 in
theorem selp_X12_loadOn : Cond.selects RX12 yX12_loadOn yX12_loadOn ∈ gT := gT_in 46 (by decide +kernel) (by decide +kernel)
set_option maxRecDepth 20000 in
theorem selp_X12_heavyOn : Cond.selects RX12 yX12_heavyOn yX12_heavyOn ∈ gT := gT_in 47 (by decide +kernel) (by decide +kernel)
set_option maxRecDepth 20000 in
theorem selp_X12_kindOf : Cond.selects RX12 yX12_kindOf yX12_kindOf ∈ gT := gT_in 48 (by decide +kernel) (by decide +kernel)
set_option maxRecDepth 20000 in
theorem selp_X12_isFresh : Cond.selects RX12 yX12_isFresh yX12_isFresh ∈ gT := gT_in 49 (by decide +kernel) (by decide +kernel)
set_option maxRecDepth 20000 in
theorem selp_X12_isDay : Cond.selects RX12 yX12_isDay yX12_isDay ∈ gT := gT_in 50 (by decide +kernel) (by decide +kernel)
set_option maxRecDepth 20000 in
theorem selp_X12_isThing : Cond.selects RX12 yX12_isThing yX12_isThing ∈ gT := gT_in 51 (by decide +kernel) (by decide +kernel)
set_option maxRecDepth 20000 in
theorem selp_X12_barred : Cond.selects RX12 yX12_barred yX12_barred ∈ gT := gT_in 52 (by decide +kernel) (by decide +kernel)
set_option maxRecDepth 20000 in
theorem selp_X12_worlds : Cond.selects RX12 yX12_worlds yX12_worlds ∈ gT := gT_in 53 (by decide +kernel) (by decide +kernel)
set_option maxRecDepth 20000 in
theorem selp_X12_layWorld : Cond.selects RX12 yX12_layWorld yX12_layWorld ∈ gT := gT_in 54 (by decide +kernel) (by decide +kernel)
set_option maxRecDepth 20000 in
theorem selp_X12_wrongDays : Cond.selects RX12 yX12_wrongDays yX12_wrongDays ∈ gT := gT_in 55 (by decide +kernel) (by decide +kernel)
set_option maxRecDepth 20000 in
theorem selp_X12_laySoon : Cond.selects RX12 yX12_laySoon yX12_laySoon ∈ gT := gT_in 56 (by decide +kernel) (by decide +kernel)
set_option maxRecDepth 20000 in
theorem selp_X12_layLeft : Cond.selects RX12 yX12_layLeft yX12_layLeft ∈ gT := gT_in 57 (by decide +kernel) (by decide +kernel)
set_option maxRecDepth 20000 in
theorem selp_X12_layTrulyShown : Cond.selects RX12 yX12_layTrulyShown yX12_layTrulyShown ∈ gT := gT_in 58 (by decide +kernel) (by decide +kernel)
set_option maxRecDepth 20000 in
theorem selp_X12_isOne : Cond.selects RX12 yX12_isOne yX12_isOne ∈ gT := gT_in 59 (by decide +kernel) (by decide +kernel)
set_option maxRecDepth 20000 in
theorem selp_X12_sizeOf : Cond.selects RX12 yX12_sizeOf yX12_sizeOf ∈ gT := gT_in 60 (by decide +kernel) (by decide +kernel)
set_option maxRecDepth 20000 in
theorem selp_X12_stoneSize : Cond.selects RX12 yX12_stoneSize yX12_stoneSize ∈ gT := gT_in 61 (by decide +kernel) (by decide +kernel)
set_option maxRecDepth 20000 in
theorem selp_X12_began : Cond.selects RX12 yX12_began yX12_began ∈ gT := gT_in 62 (by decide +kernel) (by decide +kernel)
set_option maxRecDepth 20000 in
theorem selp_X12_plainSize : Cond.selects RX12 yX12_plainSize yX12_plainSize ∈ gT := gT_in 63 (by decide +kernel) (by decide +kernel)
set_option maxRecDepth 20000 in
theorem selp_X12_markOf : Cond.selects RX12 yX12_markOf yX12_markOf ∈ gT := gT_in 64 (by decide +kernel) (by decide +kernel)
-- what may lie in the rows of references
def okRow (A : hP) (x : Option Nat) : Bool := x.isNone || oC A x == some 3
def okPort (A : hP) (x : Option Nat) : Bool := x.isNone || oC A x == some 2
def okThing (A : hP) (x : Option Nat) : Bool := x.isNone || (match oC A x with
  | some c => isTh c
  | none => false)
theorem okRow_s {A : hP} {v : Option Nat} (h : okRow A v = true) : ∀ q, v = some q → ∃ ci fs cl, A[q]? = some (.inr (ci, fs)) ∧ vwCl[ci]? = some cl ∧ (cl.1 = "YesterdayScale$Row" ∨ (cl.1, "YesterdayScale$Row") ∈ g_yes) := by
  intro q hq
  subst hq
  have h1 : oC A (some q) = some 3 := by simpa [okRow] using h
  obtain ⟨p, fs, e1, e2⟩ := oC_s h1
  cases e1
  exact ⟨3, fs, _, e2, rfl, Or.inl rfl⟩
theorem okPort_s {A : hP} {v : Option Nat} (h : okPort A v = true) : ∀ q, v = some q → ∃ ci fs cl, A[q]? = some (.inr (ci, fs)) ∧ vwCl[ci]? = some cl ∧ (cl.1 = "YesterdayScale$Port" ∨ (cl.1, "YesterdayScale$Port") ∈ g_yes) := by
  intro q hq
  subst hq
  have h1 : oC A (some q) = some 2 := by simpa [okPort] using h
  obtain ⟨p, fs, e1, e2⟩ := oC_s h1
  cases e1
  exact ⟨2, fs, _, e2, rfl, Or.inl rfl⟩
theorem isTh_or {c : Nat} (h : isTh c = true) : c = 1 ∨ c = 4 ∨ c = 5 ∨ c = 7 ∨ c = 8 := by
  unfold isTh at h
  simp only [Bool.or_eq_true, beq_iff_eq] at h
  omega
theorem okThing_s {A : hP} {v : Option Nat} (h : okThing A v = true) : ∀ q, v = some q → ∃ ci fs cl, A[q]? = some (.inr (ci, fs)) ∧ vwCl[ci]? = some cl ∧ (cl.1 = "YesterdayScale$Thing" ∨ (cl.1, "YesterdayScale$Thing") ∈ g_yes) := by
  intro q hq
  subst hq
  have h1 : ∃ c, oC A (some q) = some c ∧ isTh c = true := by
    cases hc : oC A (some q) with
    | none => simp [okThing, hc] at h
    | some c => exact ⟨c, rfl, by simpa [okThing, hc] using h⟩
  obtain ⟨c, h1, h2⟩ := h1
  obtain ⟨p, fs, e1, e2⟩ := oC_s h1
  cases e1
  rcases isTh_or h2 with rfl | rfl | rfl | rfl | rfl
  · exact ⟨_, fs, _, e2, rfl, Or.inr (by decide +kernel)⟩
  · exact ⟨_, fs, _, e2, rfl, Or.inr (by decide +kernel)⟩
  · exact ⟨_, fs, _, e2, rfl, Or.inr (by decide +kernel)⟩
  · exact ⟨_, fs, _, e2, rfl, Or.inr (by decide +kernel)⟩
  · exact ⟨_, fs, _, e2, rfl, Or.inr (by decide +kernel)⟩
-- a field of a thing is set (in Thing's constructor)
def oPT (A : hP) (r : Option Nat) (k : Nat) (v : Value) : Option hP := (oC A r).bind fun c => if isTh c then oP A r c k v else none
def oCt (A : hP) (r : Option Nat) : Option Nat := (oC A r).bind fun c => if isTh c then some c else none
theorem oCt_s {A : hP} {r : Option Nat} {c : Nat} (h : oCt A r = some c) : oC A r = some c ∧ isTh c = true := by
  unfold oCt at h
  obtain ⟨c1, h1, h2⟩ := bd h
  split at h2
  · cases h2; exact ⟨h1, by assumption⟩
  · cases h2
theorem it_X1 : ∀ ci, isTh ci = true → ∃ cl, vwCl[ci]? = some cl ∧ (isOf ci 1 = true ∧ (cl.1 = RX1 ∨ (cl.1, RX1) ∈ g_yes) ∨ isOf ci 1 = false ∧ (cl.1, RX1) ∈ g_no) := by
  intro ci h
  rcases isTh_or h with rfl | rfl | rfl | rfl | rfl
  · exact ⟨_, rfl, Or.inl ⟨rfl, Or.inl rfl⟩⟩
  · exact ⟨_, rfl, Or.inr ⟨rfl, (by decide +kernel)⟩⟩
  · exact ⟨_, rfl, Or.inr ⟨rfl, (by decide +kernel)⟩⟩
  · exact ⟨_, rfl, Or.inr ⟨rfl, (by decide +kernel)⟩⟩
  · exact ⟨_, rfl, Or.inr ⟨rfl, (by decide +kernel)⟩⟩
theorem it_X4 : ∀ ci, isTh ci = true → ∃ cl, vwCl[ci]? = some cl ∧ (isOf ci 4 = true ∧ (cl.1 = RX4 ∨ (cl.1, RX4) ∈ g_yes) ∨ isOf ci 4 = false ∧ (cl.1, RX4) ∈ g_no) := by
  intro ci h
  rcases isTh_or h with rfl | rfl | rfl | rfl | rfl
  · exact ⟨_, rfl, Or.inl ⟨rfl, Or.inr (by decide +kernel)⟩⟩
  · exact ⟨_, rfl, Or.inl ⟨rfl, Or.inl rfl⟩⟩
  · exact ⟨_, rfl, Or.inr ⟨rfl, (by decide +kernel)⟩⟩
  · exact ⟨_, rfl, Or.inr ⟨rfl, (by decide +kernel)⟩⟩
  · exact ⟨_, rfl, Or.inl ⟨rfl, Or.inr (by decide +kernel)⟩⟩
theorem it_X5 : ∀ ci, isTh ci = true → ∃ cl, vwCl[ci]? = some cl ∧ (isOf ci 5 = true ∧ (cl.1 = RX5 ∨ (cl.1, RX5) ∈ g_yes) ∨ isOf ci 5 = false ∧ (cl.1, RX5) ∈ g_no) := by
  intro ci h
  rcases isTh_or h with rfl | rfl | rfl | rfl | rfl
  · exact ⟨_, rfl, Or.inr ⟨rfl, (by decide +kernel)⟩⟩
  · exact ⟨_, rfl, Or.inr ⟨rfl, (by decide +kernel)⟩⟩
  · exact ⟨_, rfl, Or.inl ⟨rfl, Or.inl rfl⟩⟩
  · exact ⟨_, rfl, Or.inl ⟨rfl, Or.inr (by decide +kernel)⟩⟩
  · exact ⟨_, rfl, Or.inr ⟨rfl, (by decide +kernel)⟩⟩
theorem it_X8 : ∀ ci, isTh ci = true → ∃ cl, vwCl[ci]? = some cl ∧ (isOf ci 7 = true ∧ (cl.1 = RX8 ∨ (cl.1, RX8) ∈ g_yes) ∨ isOf ci 7 = false ∧ (cl.1, RX8) ∈ g_no) := by
  intro ci h
  rcases isTh_or h with rfl | rfl | rfl | rfl | rfl
  · exact ⟨_, rfl, Or.inr ⟨rfl, (by decide +kernel)⟩⟩
  · exact ⟨_, rfl, Or.inr ⟨rfl, (by decide +kernel)⟩⟩
  · exact ⟨_, rfl, Or.inr ⟨rfl, (by decide +kernel)⟩⟩
  · exact ⟨_, rfl, Or.inl ⟨rfl, Or.inl rfl⟩⟩
  · exact ⟨_, rfl, Or.inr ⟨rfl, (by decide +kernel)⟩⟩
theorem it_X9 : ∀ ci, isTh ci = true → ∃ cl, vwCl[ci]? = some cl ∧ (isOf ci 8 = true ∧ (cl.1 = RX9 ∨ (cl.1, RX9) ∈ g_yes) ∨ isOf ci 8 = false ∧ (cl.1, RX9) ∈ g_no) := by
  intro ci h
  rcases isTh_or h with rfl | rfl | rfl | rfl | rfl
  · exact ⟨_, rfl, Or.inr ⟨rfl, (by decide +kernel)⟩⟩
  · exact ⟨_, rfl, Or.inr ⟨rfl, (by decide +kernel)⟩⟩
  · exact ⟨_, rfl, Or.inr ⟨rfl, (by decide +kernel)⟩⟩
  · exact ⟨_, rfl, Or.inr ⟨rfl, (by decide +kernel)⟩⟩
  · exact ⟨_, rfl, Or.inl ⟨rfl, Or.inl rfl⟩⟩
-- old objects: the tape's texts
def oSx (r : Option Nat) : Option Unit := match r with
  | some k => if 1000000 ≤ k ∧ k < 1000008 then some () else none
  | none => none
def oSv (r : Option Nat) : Option (Option Nat) := match r with
  | some k => if 1000000 ≤ k ∧ k < 1000008 then some (some (k + 100)) else none
  | none => none
def oSk (r : Option Nat) : Option Int32 := match r with
  | some k => if 1000000 ≤ k ∧ k < 1000008 then some 0 else none
  | none => none
def oVn (r : Option Nat) : Option Int32 := match r with
  | some k => if 1000100 ≤ k ∧ k < 1000108 then some (Int32.ofNat (g_len.getD (k - 1000100) 0)) else none
  | none => none
def oVa (r : Option Nat) (i : Int32) : Option Int32 := match r with
  | some k => if (1000100 ≤ k ∧ k < 1000108) ∧ ¬ (i < 0 ∨ g_len.getD (k - 1000100) 0 ≤ i.toNatClampNeg) then some ((g_byt.getD (k - 1000100) []).getD i.toNatClampNeg 0) else none
  | none => none
theorem g_old (G : gS) (j : Nat) : g_em G (va_rf (some (1000000 + j))) = .ref (G.2.2.1 j) := by
  show Value.ref (g_ad G (1000000 + j)) = _
  unfold g_ad
  rw [if_neg (by omega), Nat.add_sub_cancel_left]
theorem cat_i (x : Int32) : (Value.int x).category = 1 := rfl
theorem cat_l (x : Int64) : (Value.long x).category = 2 := rfl
section AWG
variable {l : Launch} {M : gM} {R : Room} {G : gS} {Qf : Array Value → State → List Frame → State → Prop} {A : hP} {cs ss pc : Nat} {ls : List (Option Value)} {st : List Value} {β : Type} {res : β}
theorem AW_instT {r : Option Nat} {i tc : Nat} {nm : String} {f : Nat → Option β} (hd : decode M.2.1 pc = .ok (.instanceof i, 3)) (hlk : Cond.classLink M.1.cls i nm ∈ M.2.2.2.2)
    (htab : ∀ ci, isTh ci = true → ∃ cl, vwCl[ci]? = some cl ∧ (isOf ci tc = true ∧ (cl.1 = nm ∨ (cl.1, nm) ∈ g_yes) ∨ isOf ci tc = false ∧ (cl.1, nm) ∈ g_no))
    (h : (oCt A r).bind f = some res) (k : ∀ c, f c = some res → AW l M R G Qf A cs ss (pc + 3) ls (.int (if isOf c tc then 1 else 0) :: st)) : AW l M R G Qf A cs ss pc ls (va_rf r :: st) := by
  obtain ⟨c, h1, h2⟩ := bd h
  obtain ⟨h3, h4⟩ := oCt_s h1
  refine AW_inst (f := fun c => f c) (tc := tc) hd hlk htab (by rw [h3]; exact h2) (fun c' e => ?_) (fun c' e h => k c' h)
  rw [h3] at e; cases e; exact h4
theorem AW_putT {k0 i : Nat} {r : Option Nat} {v : Value} {nm : String} {f : hP → Option β} (hk : k0 = 0 ∧ nm = "number" ∨ k0 = 1 ∧ nm = "weight") (hm : M.1.cls = "YesterdayScale$Thing") (hini : M.1.name = "<init>") {x : Int32} (hv : v = .int x) (hT : ∀ w ∈ gT, w ∈ M.2.2.2.2) (hd : decode M.2.1 pc = .ok (.putfield i, 3)) (hlk : Cond.fieldLink M.1.cls i "YesterdayScale$Thing" nm "I" ∈ M.2.2.2.2) (h : (oPT A r k0 v).bind f = some res) (k : ∀ A', f A' = some res → AW l M R G Qf A' cs ss (pc + 3) ls st) : AW l M R G Qf A cs ss pc ls (v :: va_rf r :: st) := by
  subst hv
  obtain ⟨A', h1, h2⟩ := bd h
  unfold oPT at h1
  obtain ⟨c, h3, h4⟩ := bd h1
  split at h4
  case isFalse => cases h4
  rename_i h5
  have h6 : (oP A r c k0 (.int x)).bind f = some res := by rw [h4]; exact h2
  rcases hk with ⟨rfl, rfl⟩ | ⟨rfl, rfl⟩ <;> rcases isTh_or h5 with rfl | rfl | rfl | rfl | rfl
  · exact AW_put (k0 := 0) (C := RX1) (T := TX1) (N := 2) (ty0 := tyX1) hd rfl (fun w h => hT w (tU_X1 w h)) tyX1_ok nmX1 (by decide) hlk (Or.inr ⟨rfl, hini, hm.symm⟩) rfl rfl h6 (fun A' _ h => k A' h)
  · exact AW_put (k0 := 0) (C := RX4) (T := TX4) (N := 2) (ty0 := tyX4) hd rfl (fun w h => hT w (tU_X4 w h)) tyX4_ok nmX4 (by decide) hlk (Or.inr ⟨rfl, hini, hm.symm⟩) rfl rfl h6 (fun A' _ h => k A' h)
  · exact AW_put (k0 := 0) (C := RX5) (T := TX5) (N := 2) (ty0 := tyX5) hd rfl (fun w h => hT w (tU_X5 w h)) tyX5_ok nmX5 (by decide) hlk (Or.inr ⟨rfl, hini, hm.symm⟩) rfl rfl h6 (fun A' _ h => k A' h)
  · exact AW_put (k0 := 0) (C := RX8) (T := TX8) (N := 2) (ty0 := tyX8) hd rfl (fun w h => hT w (tU_X8 w h)) tyX8_ok nmX8 (by decide) hlk (Or.inr ⟨rfl, hini, hm.symm⟩) rfl rfl h6 (fun A' _ h => k A' h)
  · exact AW_put (k0 := 0) (C := RX9) (T := TX9) (N := 2) (ty0 := tyX9) hd rfl (fun w h => hT w (tU_X9 w h)) tyX9_ok nmX9 (by decide) hlk (Or.inr ⟨rfl, hini, hm.symm⟩) rfl rfl h6 (fun A' _ h => k A' h)
  · exact AW_put (k0 := 1) (C := RX1) (T := TX1) (N := 2) (ty0 := tyX1) hd rfl (fun w h => hT w (tU_X1 w h)) tyX1_ok nmX1 (by decide) hlk (Or.inr ⟨rfl, hini, hm.symm⟩) rfl rfl h6 (fun A' _ h => k A' h)
  · exact AW_put (k0 := 1) (C := RX4) (T := TX4) (N := 2) (ty0 := tyX4) hd rfl (fun w h => hT w (tU_X4 w h)) tyX4_ok nmX4 (by decide) hlk (Or.inr ⟨rfl, hini, hm.symm⟩) rfl rfl h6 (fun A' _ h => k A' h)
  · exact AW_put (k0 := 1) (C := RX5) (T := TX5) (N := 2) (ty0 := tyX5) hd rfl (fun w h => hT w (tU_X5 w h)) tyX5_ok nmX5 (by decide) hlk (Or.inr ⟨rfl, hini, hm.symm⟩) rfl rfl h6 (fun A' _ h => k A' h)
  · exact AW_put (k0 := 1) (C := RX8) (T := TX8) (N := 2) (ty0 := tyX8) hd rfl (fun w h => hT w (tU_X8 w h)) tyX8_ok nmX8 (by decide) hlk (Or.inr ⟨rfl, hini, hm.symm⟩) rfl rfl h6 (fun A' _ h => k A' h)
  · exact AW_put (k0 := 1) (C := RX9) (T := TX9) (N := 2) (ty0 := tyX9) hd rfl (fun w h => hT w (tU_X9 w h)) tyX9_ok nmX9 (by decide) hlk (Or.inr ⟨rfl, hini, hm.symm⟩) rfl rfl h6 (fun A' _ h => k A' h)
theorem AW_max {i : Nat} {x y : Int32} (hd : decode M.2.1 pc = .ok (.invokestatic i, 3)) (hT : ∀ w ∈ gT, w ∈ M.2.2.2.2) (hlk : Cond.methodLink M.1.cls i Lib.Math.max.name ∈ gT) (hstc : Cond.static Lib.Math.max.name ∈ gT) (hini : Cond.initialized "java/lang/Math" ∈ gT) (hcode : Cond.code Lib.Math.max.name Lib.Math.max.code 2 (some .int) ∈ gT) (hR : 1 ≤ R.frames ∧ 36 ≤ R.locals) (hst : st.length ≤ 4) (k : AW l M R G Qf A 0 0 (pc + 3) ls (.int (if x < y then y else x) :: st)) : AW l M R G Qf A 0 0 pc ls (.int y :: .int x :: st) := by
  intro p e s m args below meth c H locs la hF hM
  have hts := hF.1.2.2.2.2.2.1
  have hg := g_stk G st hst
  exact va_mmax hF.1.1 hF.1.2.1 (hF.1.2.2.2.1.trans hM.2.2.2.2.1.symm) hF.1.2.2.2.2.1 (hts _ (hT _ hlk)) (hts _ (hT _ hstc)) (hts _ (hT _ hini)) (hts _ (hT _ hcode)) hR.1 (by have := hR.2; omega) (Nat.zero_le _) (Nat.zero_le _) hd (k p e s m args below meth c H locs la hF hM)
theorem AW_gets1 {i : Nat} (hcl : M.1.cls = "java/lang/String") (hd : decode M.2.1 pc = .ok (.getstatic i, 3)) (hlk : Cond.fieldLink M.1.cls i "java/lang/String" "COMPACT_STRINGS" "Z" ∈ M.2.2.2.2) (k : AW l M R G Qf A cs ss (pc + 3) ls (.int 1 :: st)) : AW l M R G Qf A cs ss pc ls st := by
  intro p e s m args below meth c H locs la hF hM
  exact va_gets hF.1.1 hF.1.2.1 hF.2.2.1.2.2.2.2.2.2.2.1 hM.2.2.2.1 hF.1.2.2.2.2.1 (hF.1.2.2.2.2.2.1 _ hlk) (fun _ h => h) hd (k p e s m args below meth c H locs la hF hM)
theorem AW_getsq {i : Nat} (hcl : M.1.cls = "java/lang/String") (hd : decode M.2.1 pc = .ok (.getstatic i, 3)) (hlk : Cond.fieldLink M.1.cls i "jdk/internal/util/Preconditions" "SIOOBE_FORMATTER" "Ljava/util/function/BiFunction;" ∈ M.2.2.2.2) (k : ∀ z : Option Nat, AW l M R G Qf A cs ss (pc + 3) ls (va_rf z :: st)) : AW l M R G Qf A cs ss pc ls st := by
  intro p e s m args below meth c H locs la hF hM
  rcases hF.2.2.1.2.2.2.2.2.2.2.2.1 with hz | hz
  · exact va_gets hF.1.1 hF.1.2.1 hz hM.2.2.2.1 hF.1.2.2.2.2.1 (hF.1.2.2.2.2.2.1 _ hlk) (fun _ h => h) hd (k none p e s m args below meth c H locs la hF hM)
  · have h2 := k (some (1000000 + 200)) p e s m args below meth c H locs la hF hM
    rw [List.map_cons, g_old] at h2
    exact va_gets hF.1.1 hF.1.2.1 hz hM.2.2.2.1 hF.1.2.2.2.2.1 (hF.1.2.2.2.2.2.1 _ hlk) (fun _ h => h) hd h2
theorem AW_sv {i : Nat} {r : Option Nat} {f : Option Nat → Option β} (hd : decode M.2.1 pc = .ok (.getfield i, 3)) (hlk : Cond.fieldLink M.1.cls i "java/lang/String" "value" "[B" ∈ M.2.2.2.2) (h : (oSv r).bind f = some res) (k : ∀ x, oSv r = some x → f x = some res → AW l M R G Qf A cs ss (pc + 3) ls (va_rf x :: st)) : AW l M R G Qf A cs ss pc ls (va_rf r :: st) := by
  intro p e s m args below meth c H locs la hF hM
  obtain ⟨x, h1, h2⟩ := bd h
  have h6 := k x h1 h2 p e s m args below meth c H locs la hF hM
  unfold oSv at h1
  split at h1
  case h_2 => cases h1
  split at h1
  case isFalse => cases h1
  rename_i kk hk
  cases h1
  obtain ⟨j, rfl⟩ : ∃ j, kk = 1000000 + j := ⟨kk - 1000000, by omega⟩
  rw [List.map_cons, show 1000000 + j + 100 = 1000000 + (100 + j) by omega, g_old] at h6
  rw [List.map_cons, g_old]
  exact vk_getf hF.1.1 hF.1.2.1 (hF.2.2.1.2.2.2.2.2.2.1.1 j (by omega)).2.2.1 hM.2.2.2.1 hF.1.2.2.2.2.1 (hF.1.2.2.2.2.2.1 _ hlk) (fun _ h => h) hd h6
theorem AW_sk {i : Nat} {r : Option Nat} {f : Int32 → Option β} (hd : decode M.2.1 pc = .ok (.getfield i, 3)) (hlk : Cond.fieldLink M.1.cls i "java/lang/String" "coder" "B" ∈ M.2.2.2.2) (h : (oSk r).bind f = some res) (k : ∀ x, oSk r = some x → f x = some res → AW l M R G Qf A cs ss (pc + 3) ls (.int x :: st)) : AW l M R G Qf A cs ss pc ls (va_rf r :: st) := by
  intro p e s m args below meth c H locs la hF hM
  obtain ⟨x, h1, h2⟩ := bd h
  have h6 := k x h1 h2 p e s m args below meth c H locs la hF hM
  unfold oSk at h1
  split at h1
  case h_2 => cases h1
  split at h1
  case isFalse => cases h1
  rename_i kk hk
  cases h1
  obtain ⟨j, rfl⟩ : ∃ j, kk = 1000000 + j := ⟨kk - 1000000, by omega⟩
  rw [List.map_cons, g_old]
  exact vk_getf hF.1.1 hF.1.2.1 (hF.2.2.1.2.2.2.2.2.2.1.1 j (by omega)).2.1 hM.2.2.2.1 hF.1.2.2.2.2.1 (hF.1.2.2.2.2.2.1 _ hlk) (fun _ h => h) hd h6
theorem AW_vn {r : Option Nat} {f : Int32 → Option β} (hd : decode M.2.1 pc = .ok (.arraylength, 1)) (h : (oVn r).bind f = some res) (k : ∀ x, oVn r = some x → f x = some res → AW l M R G Qf A cs ss (pc + 1) ls (.int x :: st)) : AW l M R G Qf A cs ss pc ls (va_rf r :: st) := by
  intro p e s m args below meth c H locs la hF hM
  obtain ⟨x, h1, h2⟩ := bd h
  have h6 := k x h1 h2 p e s m args below meth c H locs la hF hM
  unfold oVn at h1
  split at h1
  case h_2 => cases h1
  split at h1
  case isFalse => cases h1
  rename_i kk hk
  have h1 := Option.some.inj h1
  subst h1
  obtain ⟨j, rfl⟩ : ∃ j, kk = 1000100 + j := ⟨kk - 1000100, by omega⟩
  rw [Nat.add_sub_cancel_left] at h6
  rw [List.map_cons, show 1000100 + j = 1000000 + (100 + j) by omega, g_old]
  exact va_tlen hF.1.1 hF.1.2.1 (hF.2.2.1.2.2.2.2.2.2.1.1 j (by omega)).2.2.2 hM.2.2.2.1 rfl hd h6
theorem AW_va {r : Option Nat} {i : Int32} {f : Int32 → Option β} (hd : decode M.2.1 pc = .ok (.baload, 1)) (h : (oVa r i).bind f = some res) (k : ∀ x, oVa r i = some x → f x = some res → AW l M R G Qf A cs ss (pc + 1) ls (.int x :: st)) : AW l M R G Qf A cs ss pc ls (.int i :: va_rf r :: st) := by
  intro p e s m args below meth c H locs la hF hM
  obtain ⟨x, h1, h2⟩ := bd h
  have h6 := k x h1 h2 p e s m args below meth c H locs la hF hM
  unfold oVa at h1
  split at h1
  case h_2 => cases h1
  split at h1
  case isFalse => cases h1
  rename_i kk hk
  obtain ⟨hk, hi⟩ := hk
  have h1 := Option.some.inj h1
  subst h1
  obtain ⟨j, rfl⟩ : ∃ j, kk = 1000100 + j := ⟨kk - 1000100, by omega⟩
  rw [Nat.add_sub_cancel_left] at h6 hi
  rw [List.map_cons, List.map_cons, show 1000100 + j = 1000000 + (100 + j) by omega, g_old]
  exact va_tb hF.1.1 hF.1.2.1 (hF.2.2.1.2.2.2.2.2.2.1.1 j (by omega)).2.2.2 hM.2.2.2.1 hi rfl hd h6
theorem AW_nret {mc ms : Nat} {x : Int32} {ty : FieldType} {res : Int32 × hP} (hd : decode M.2.1 pc = .ok (.ireturn, 1)) (hr : M.2.2.2.1 = some ty) (hc : cs ≤ mc ∧ ss ≤ ms) (h : (if narrow ty (.int x) = .int x then some (x, A) else none) = some res) : AW l M R G (g_Qf G (gi res) mc ms) A cs ss pc ls [.int x] := by
  intro p e s m args below meth c H locs la hF hM
  split at h
  case isFalse => cases h
  rename_i h9
  cases h
  refine W.widen hc.1 hc.2 ?_
  exact W.zret hF.1.1 hF.1.2.1 (hF.1.2.2.1.trans hr) h9 (fun t ht hW => g_end (v := some (.int x)) (p := p) (m := m) (meth := meth) (c := c) hM ⟨rfl, rfl⟩ ht) hM.2.2.2.1.2.2 hd hF.1.2.2.2.2.2.2.1
theorem AW_callWi {y : MethodName} {cc : ByteArray} {n d mc ms np i : Nat} {ret : Option FieldType} {As : List Value} {F : Option (Int32 × hP)} {f : Int32 × hP → Option β} {r : Option Nat} (hd : decode M.2.1 pc = .ok (.invokevirtual i, 3)) (hT : ∀ w ∈ gT, w ∈ M.2.2.2.2) (hlk : Cond.methodLink M.1.cls i y ∈ gT) (hinm : Cond.instanceMethod y ∈ gT) (hsel : Cond.selects "java/lang/String" y y ∈ gT) (hini : Cond.initialized y.cls ∈ gT) (hcode : Cond.code y cc n ret ∈ gT) (hdesc : y.cls ≠ "java/lang/invoke/MethodHandle" ∧ y.cls ≠ "java/lang/invoke/VarHandle" ∧ (parseMethodDescriptor y.desc).map (fun d => d.parameters.length) = some np) (hR : d + 1 ≤ R.frames ∧ 8 + (n + 11) + 36 * d ≤ R.locals) (hcs : cs + mc ≤ R.cells ∧ ss + ms ≤ R.slots) (hst : st.length ≤ 4) (hnp : As.length = np) (h : ((oSx r).bind fun _ => F.bind f) = some res) (hC : ∀ q, F = some q → Ct l (gMk y cc n ret) d mc ms A (va_rf r :: As) (gi q)) (k : ∀ q, F = some q → f q = some res → AW l M R G Qf q.2 (cs + mc) (ss + ms) (pc + 3) ls (.int q.1 :: st)) : AW l M R G Qf A cs ss pc ls (As.reverse ++ va_rf r :: st) := by
  intro p e s m args below meth c H locs la hF hM
  obtain ⟨_, h1, h0⟩ := bd h
  obtain ⟨q, h2, h3⟩ := bd h0
  unfold oSx at h1
  split at h1
  case h_2 => cases h1
  split at h1
  case isFalse => cases h1
  rename_i kk hk
  obtain ⟨j, rfl⟩ : ∃ j, kk = 1000000 + j := ⟨kk - 1000000, by omega⟩
  have hts := hF.1.2.2.2.2.2.1
  rw [List.map_append, List.map_reverse, List.map_cons, g_old]
  exact g_run (Q := gi q) hF hM (va_runV (C := "java/lang/String") (g_K0 hF) (hC q h2 G) ⟨callB_of np hts (gT_good hT hcode) rfl rfl rfl (hts _ (hT _ hini)) (hts _ (hT _ hlk)) hdesc hR, hts _ (hT _ hinm), hts _ (hT _ hsel)⟩ ⟨g_blind G A _, vk_recv hF.2.2.1.2.2.2.2.2.2.1 (by omega) hM.2.2.2.1, fun U hU hW => ⟨by rw [List.map_cons, g_old], g_pre hF hM hU hW⟩⟩ rfl (by simpa using hnp) hM.2.2.2.2.1 rfl (lv_room (g_stk G st hst)) hd hcs) (fun v A' hQ => by obtain ⟨rfl, rfl⟩ := hQ; exact k q h2 h3)
end AWG
