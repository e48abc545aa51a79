def f_L_law_984 (L : Nat) (xs : Nat → Int32) (N : Nat) (r18 : hP → Nat → Nat → Option Nat → Option Nat → Int32 → Option (Int32 × hP)) (A : hP) (cs ss : Nat) (x1 : Option Nat) (x2 : Option Nat) (x3 : Int32) : Option (Int32 × hP) := r18 A cs ss x1 x2 (x3 + (6 : Int32))
set_option maxRecDepth 20000 in
set_option maxHeartbeats 4000000 in
theorem t_L_law_984 {l : Launch} {G : gS} (L : Nat) (xs : Nat → Int32) (hG : g_Sc G L xs) (N : Nat) (r18 : hP → Nat → Nat → Option Nat → Option Nat → Int32 → Option (Int32 × hP)) (hr18 : ∀ (A : hP) (cs ss : Nat) (x1 : Option Nat) (x2 : Option Nat) (x3 : Int32) (res : Int32 × hP), r18 A cs ss x1 x2 x3 = some res → AW l mL_law room_1 G (g_Ql G) A cs ss 18 [some (va_rf (some 1000300)), some (va_rf x1), some (va_rf x2), some (.int x3)] []) (A : hP) (cs ss : Nat) (x1 : Option Nat) (x2 : Option Nat) (x3 : Int32) (res : Int32 × hP) (h : f_L_law_984 L xs N r18 A cs ss x1 x2 x3 = some res) : AW l mL_law room_1 G (g_Ql G) A cs ss 984 [some (va_rf (some 1000300)), some (va_rf x1), some (va_rf x2), some (.int x3)] [] := by
  unfold f_L_law_984 at h
  refine AW_iinc (v := 6) (ls' := [some (va_rf (some 1000300)), some (va_rf x1), some (va_rf x2), some (.int (x3 + (6 : Int32)))]) dL_law_984 rfl (c1_r rfl) (by decide) (by decide) rfl ?_
  refine AW_goto (tgt := 18) dL_law_987 (by decide) ?_
  exact (hr18 _ _ _ _ _ _ _ h)
def f_L_law_18 (L : Nat) (xs : Nat → Int32) (N : Nat) : Nat → hP → Nat → Nat → Option Nat → Option Nat → Int32 → Option (Int32 × hP)
  | 0, _, _, _, _, _, _ => none
  | n + 1, A, cs, ss, x1, x2, x3 => if ((Int32.ofNat L) - (6 : Int32)) < x3 then (if cs ≤ 600000 ∧ ss ≤ 7302250 then (if (1 : Int32) = 1 then some ((1 : Int32), A) else none) else none) else ((oX L xs x3).bind fun v1 => if (v1 &&& (31 : Int32)) = (0 : Int32) then ((oX L xs (x3 + (1 : Int32))).bind fun v2 => (oX L xs (x3 + (2 : Int32))).bind fun v3 => (oX L xs (x3 + (3 : Int32))).bind fun v4 => if cs + 0 ≤ 600000 ∧ ss + 0 ≤ 7302250 then ((oCk A x1 10).bind fun _ => (f_X11_row N A x1 v2 v3 v4).bind fun q5 => (oX L xs (x3 + (1 : Int32))).bind fun v6 => (oX L xs (x3 + (2 : Int32))).bind fun v7 => (oX L xs (x3 + (3 : Int32))).bind fun v8 => if cs + 0 + 0 ≤ 600000 ∧ ss + 0 + 0 ≤ 7302250 then ((oCk q5.2 x2 11).bind fun _ => (f_X12_row N q5.2 x2 v6 v7 v8).bind fun q9 => if q5.1 = q9.1 then (f_L_law_984 L xs N (f_L_law_18 L xs N n) q9.2 (cs + 0 + 0) (ss + 0 + 0) x1 x2 x3) else (if cs + 0 + 0 ≤ 600000 ∧ ss + 0 + 0 ≤ 7302250 then (if (0 : Int32) = 1 then some ((0 : Int32), q9.2) else none) else none)) else none) else none) else (if (v1 &&& (31 : Int32)) = (1 : Int32) then ((oX L xs (x3 + (1 : Int32))).bind fun v10 => (oX L xs (x3 + (2 : Int32))).bind fun v11 => (oX L xs (x3 + (3 : Int32))).bind fun v12 => if cs + 0 ≤ 600000 ∧ ss + 0 ≤ 7302250 then ((oCk A x1 10).bind fun _ => (f_X11_set N A x1 v10 v11 v12).bind fun q13 => (oX L xs (x3 + (1 : Int32))).bind fun v14 => (oX L xs (x3 + (2 : Int32))).bind fun v15 => (oX L xs (x3 + (3 : Int32))).bind fun v16 => if cs + 0 + 0 ≤ 600000 ∧ ss + 0 + 0 ≤ 7302250 then ((oCk q13.2 x2 11).bind fun _ => (f_X12_set N q13.2 x2 v14 v15 v16).bind fun q17 => if q13.1 = q17.1 then (f_L_law_984 L xs N (f_L_law_18 L xs N n) q17.2 (cs + 0 + 0) (ss + 0 + 0) x1 x2 x3) else (if cs + 0 + 0 ≤ 600000 ∧ ss + 0 + 0 ≤ 7302250 then (if (0 : Int32) = 1 then some ((0 : Int32), q17.2) else none) else none)) else none) else none) else (if (v1 &&& (31 : Int32)) = (2 : Int32) then ((oX L xs (x3 + (1 : Int32))).bind fun v18 => (oX L xs (x3 + (2 : Int32))).bind fun v19 => (oX L xs (x3 + (3 : Int32))).bind fun v20 => (oX L xs (x3 + (4 : Int32))).bind fun v21 => (oX L xs (x3 + (5 : Int32))).bind fun v22 => if cs + 0 ≤ 600000 ∧ ss + 0 ≤ 7302250 then ((oCk A x1 10).bind fun _ => (f_X11_copy N A x1 v18 v19 v20 v21 v22).bind fun q23 => (oX L xs (x3 + (1 : Int32))).bind fun v24 => (oX L xs (x3 + (2 : Int32))).bind fun v25 => (oX L xs (x3 + (3 : Int32))).bind fun v26 => (oX L xs (x3 + (4 : Int32))).bind fun v27 => (oX L xs (x3 + (5 : Int32))).bind fun v28 => if cs + 0 + 0 ≤ 600000 ∧ ss + 0 + 0 ≤ 7302250 then ((oCk q23.2 x2 11).bind fun _ => (f_X12_copy N q23.2 x2 v24 v25 v26 v27 v28).bind fun q29 => if q23.1 = q29.1 then (f_L_law_984 L xs N (f_L_law_18 L xs N n) q29.2 (cs + 0 + 0) (ss + 0 + 0) x1 x2 x3) else (if cs + 0 + 0 ≤ 600000 ∧ ss + 0 + 0 ≤ 7302250 then (if (0 : Int32) = 1 then some ((0 : Int32), q29.2) else none) else none)) else none) else none) else (if (v1 &&& (31 : Int32)) = (3 : Int32) then ((oX L xs (x3 + (1 : Int32))).bind fun v30 => if cs + 0 ≤ 600000 ∧ ss + 0 ≤ 7302250 then ((oCk A x1 10).bind fun _ => (f_X11_drop N A x1 v30).bind fun q31 => (oX L xs (x3 + (1 : Int32))).bind fun v32 => if cs + 0 + 0 ≤ 600000 ∧ ss + 0 + 0 ≤ 7302250 then ((oCk q31.2 x2 11).bind fun _ => (f_X12_drop N q31.2 x2 v32).bind fun q33 => if q31.1 = q33.1 then (f_L_law_984 L xs N (f_L_law_18 L xs N n) q33.2 (cs + 0 + 0) (ss + 0 + 0) x1 x2 x3) else (if cs + 0 + 0 ≤ 600000 ∧ ss + 0 + 0 ≤ 7302250 then (if (0 : Int32) = 1 then some ((0 : Int32), q33.2) else none) else none)) else none) else none) else (if (v1 &&& (31 : Int32)) = (4 : Int32) then ((oX L xs (x3 + (1 : Int32))).bind fun v34 => (oX L xs (x3 + (2 : Int32))).bind fun v35 => (oX L xs (x3 + (3 : Int32))).bind fun v36 => if cs + 0 ≤ 600000 ∧ ss + 0 ≤ 7302250 then ((oCk A x1 10).bind fun _ => (f_X11_feed N A x1 ((v34.toInt64 <<< ((32 : Int32).toInt64 &&& 63)) ||| (v35.toInt64 &&& (4294967295 : Int64))) v36).bind fun q37 => (oX L xs (x3 + (1 : Int32))).bind fun v38 => (oX L xs (x3 + (2 : Int32))).bind fun v39 => (oX L xs (x3 + (3 : Int32))).bind fun v40 => if cs + 0 + 0 ≤ 600000 ∧ ss + 0 + 0 ≤ 7302250 then ((oCk q37.2 x2 11).bind fun _ => (f_X12_feed N q37.2 x2 ((v38.toInt64 <<< ((32 : Int32).toInt64 &&& 63)) ||| (v39.toInt64 &&& (4294967295 : Int64))) v40).bind fun q41 => if q37.1 = q41.1 then (f_L_law_984 L xs N (f_L_law_18 L xs N n) q41.2 (cs + 0 + 0) (ss + 0 + 0) x1 x2 x3) else (if cs + 0 + 0 ≤ 600000 ∧ ss + 0 + 0 ≤ 7302250 then (if (0 : Int32) = 1 then some ((0 : Int32), q41.2) else none) else none)) else none) else none) else (if (v1 &&& (31 : Int32)) = (5 : Int32) then (if cs + 4 ≤ 600000 ∧ ss + 8 ≤ 7302250 then ((oCk A x1 10).bind fun _ => (f_X11_port N A x1).bind fun q42 => if cs + 4 + 0 ≤ 600000 ∧ ss + 8 + 0 ≤ 7302250 then ((oCk q42.2 x2 11).bind fun _ => (f_X12_port N q42.2 x2).bind fun q43 => if q42.1 = q43.1 then (f_L_law_984 L xs N (f_L_law_18 L xs N n) q43.2 (cs + 4 + 0) (ss + 8 + 0) x1 x2 x3) else (if cs + 4 + 0 ≤ 600000 ∧ ss + 8 + 0 ≤ 7302250 then (if (0 : Int32) = 1 then some ((0 : Int32), q43.2) else none) else none)) else none) else none) else (if (v1 &&& (31 : Int32)) = (6 : Int32) then (if cs + 0 ≤ 600000 ∧ ss + 0 ≤ 7302250 then ((oCk A x1 10).bind fun _ => (f_X11_fault N A x1).bind fun q44 => if cs + 0 + 0 ≤ 600000 ∧ ss + 0 + 0 ≤ 7302250 then ((oCk q44.2 x2 11).bind fun _ => (f_X12_fault N q44.2 x2).bind fun q45 => if q44.1 = q45.1 then (f_L_law_984 L xs N (f_L_law_18 L xs N n) q45.2 (cs + 0 + 0) (ss + 0 + 0) x1 x2 x3) else (if cs + 0 + 0 ≤ 600000 ∧ ss + 0 + 0 ≤ 7302250 then (if (0 : Int32) = 1 then some ((0 : Int32), q45.2) else none) else none)) else none) else none) else (if (v1 &&& (31 : Int32)) = (7 : Int32) then ((oX L xs (x3 + (1 : Int32))).bind fun v46 => if cs + 0 ≤ 600000 ∧ ss + 0 ≤ 7302250 then ((oCk A x1 10).bind fun _ => (f_X11_day N A x1 v46).bind fun q47 => (oX L xs (x3 + (1 : Int32))).bind fun v48 => if cs + 0 + 0 ≤ 600000 ∧ ss + 0 + 0 ≤ 7302250 then ((oCk q47.2 x2 11).bind fun _ => (f_X12_day N q47.2 x2 v48).bind fun q49 => if q47.1 = q49.1 then (f_L_law_984 L xs N (f_L_law_18 L xs N n) q49.2 (cs + 0 + 0) (ss + 0 + 0) x1 x2 x3) else (if cs + 0 + 0 ≤ 600000 ∧ ss + 0 + 0 ≤ 7302250 then (if (0 : Int32) = 1 then some ((0 : Int32), q49.2) else none) else none)) else none) else none) else (if (v1 &&& (31 : Int32)) = (8 : Int32) then (if cs + 0 ≤ 600000 ∧ ss + 0 ≤ 7302250 then ((oCk A x1 10).bind fun _ => (f_X11_undo N A x1).bind fun q50 => if cs + 0 + 0 ≤ 600000 ∧ ss + 0 + 0 ≤ 7302250 then ((oCk q50.2 x2 11).bind fun _ => (f_X12_undo N q50.2 x2).bind fun q51 => if q50.1 = q51.1 then (f_L_law_984 L xs N (f_L_law_18 L xs N n) q51.2 (cs + 0 + 0) (ss + 0 + 0) x1 x2 x3) else (if cs + 0 + 0 ≤ 600000 ∧ ss + 0 + 0 ≤ 7302250 then (if (0 : Int32) = 1 then some ((0 : Int32), q51.2) else none) else none)) else none) else none) else (if (v1 &&& (31 : Int32)) = (9 : Int32) then ((oX L xs (x3 + (1 : Int32))).bind fun v52 => (oX L xs (x3 + (2 : Int32))).bind fun v53 => if cs + 0 ≤ 600000 ∧ ss + 0 ≤ 7302250 then ((oCk A x1 10).bind fun _ => (f_X11_shown N A x1 v52 v53).bind fun q54 => (oX L xs (x3 + (1 : Int32))).bind fun v55 => (oX L xs (x3 + (2 : Int32))).bind fun v56 => if cs + 0 + 0 ≤ 600000 ∧ ss + 0 + 0 ≤ 7302250 then ((oCk q54.2 x2 11).bind fun _ => (f_X12_shown N q54.2 x2 v55 v56).bind fun q57 => if q54.1 = q57.1 then (f_L_law_984 L xs N (f_L_law_18 L xs N n) q57.2 (cs + 0 + 0) (ss + 0 + 0) x1 x2 x3) else (if cs + 0 + 0 ≤ 600000 ∧ ss + 0 + 0 ≤ 7302250 then (if (0 : Int32) = 1 then some ((0 : Int32), q57.2) else none) else none)) else none) else none) else (if (v1 &&& (31 : Int32)) = (10 : Int32) then ((oX L xs (x3 + (1 : Int32))).bind fun v58 => (oX L xs (x3 + (2 : Int32))).bind fun v59 => if cs + 0 ≤ 600000 ∧ ss + 0 ≤ 7302250 then ((oCk A x1 10).bind fun _ => (f_X11_heavy N A x1 v58 v59).bind fun q60 => (oX L xs (x3 + (1 : Int32))).bind fun v61 => (oX L xs (x3 + (2 : Int32))).bind fun v62 => if cs + 0 + 0 ≤ 600000 ∧ ss + 0 + 0 ≤ 7302250 then ((oCk q60.2 x2 11).bind fun _ => (f_X12_heavy N q60.2 x2 v61 v62).bind fun q63 => if q60.1 = q63.1 then (f_L_law_984 L xs N (f_L_law_18 L xs N n) q63.2 (cs + 0 + 0) (ss + 0 + 0) x1 x2 x3) else (if cs + 0 + 0 ≤ 600000 ∧ ss + 0 + 0 ≤ 7302250 then (if (0 : Int32) = 1 then some ((0 : Int32), q63.2) else none) else none)) else none) else none) else (if (v1 &&& (31 : Int32)) = (11 : Int32) then ((oX L xs (x3 + (1 : Int32))).bind fun v64 => if cs + 0 ≤ 600000 ∧ ss + 0 ≤ 7302250 then ((oCk A x1 10).bind fun _ => (f_X11_next N A x1 v64).bind fun q65 => (oX L xs (x3 + (1 : Int32))).bind fun v66 => if cs + 0 + 0 ≤ 600000 ∧ ss + 0 + 0 ≤ 7302250 then ((oCk q65.2 x2 11).bind fun _ => (f_X12_next N q65.2 x2 v66).bind fun q67 => if q65.1 = q67.1 then (f_L_law_984 L xs N (f_L_law_18 L xs N n) q67.2 (cs + 0 + 0) (ss + 0 + 0) x1 x2 x3) else (if cs + 0 + 0 ≤ 600000 ∧ ss + 0 + 0 ≤ 7302250 then (if (0 : Int32) = 1 then some ((0 : Int32), q67.2) else none) else none)) else none) else none) else (if (v1 &&& (31 : Int32)) = (12 : Int32) then ((oX L xs (x3 + (1 : Int32))).bind fun v68 => (oX L xs (x3 + (2 : Int32))).bind fun v69 => (oX L xs (x3 + (3 : Int32))).bind fun v70 => if cs + 0 ≤ 600000 ∧ ss + 0 ≤ 7302250 then ((oCk A x1 10).bind fun _ => (f_X11_fits N A x1 v68 v69 v70).bind fun q71 => (oX L xs (x3 + (1 : Int32))).bind fun v72 => (oX L xs (x3 + (2 : Int32))).bind fun v73 => (oX L xs (x3 + (3 : Int32))).bind fun v74 => if cs + 0 + 0 ≤ 600000 ∧ ss + 0 + 0 ≤ 7302250 then ((oCk q71.2 x2 11).bind fun _ => (f_X12_fits N q71.2 x2 v72 v73 v74).bind fun q75 => if q71.1 = q75.1 then (f_L_law_984 L xs N (f_L_law_18 L xs N n) q75.2 (cs + 0 + 0) (ss + 0 + 0) x1 x2 x3) else (if cs + 0 + 0 ≤ 600000 ∧ ss + 0 + 0 ≤ 7302250 then (if (0 : Int32) = 1 then some ((0 : Int32), q75.2) else none) else none)) else none) else none) else (if (v1 &&& (31 : Int32)) = (13 : Int32) then ((oX L xs (x3 + (1 : Int32))).bind fun v76 => (oX L xs (x3 + (2 : Int32))).bind fun v77 => if cs + 0 ≤ 600000 ∧ ss + 0 ≤ 7302250 then ((oCk A x1 10).bind fun _ => (f_X11_sure N A x1 v76 v77).bind fun q78 => (oX L xs (x3 + (1 : Int32))).bind fun v79 => (oX L xs (x3 + (2 : Int32))).bind fun v80 => if cs + 0 + 0 ≤ 600000 ∧ ss + 0 + 0 ≤ 7302250 then ((oCk q78.2 x2 11).bind fun _ => (f_X12_sure N q78.2 x2 v79 v80).bind fun q81 => if q78.1 = q81.1 then (f_L_law_984 L xs N (f_L_law_18 L xs N n) q81.2 (cs + 0 + 0) (ss + 0 + 0) x1 x2 x3) else (if cs + 0 + 0 ≤ 600000 ∧ ss + 0 + 0 ≤ 7302250 then (if (0 : Int32) = 1 then some ((0 : Int32), q81.2) else none) else none)) else none) else none) else (if (v1 &&& (31 : Int32)) = (14 : Int32) then ((oX L xs (x3 + (1 : Int32))).bind fun v82 => (oX L xs (x3 + (2 : Int32))).bind fun v83 => if cs + 0 ≤ 600000 ∧ ss + 0 ≤ 7302250 then ((oCk A x1 10).bind fun _ => (f_X11_gap N A x1 v82 v83).bind fun q84 => (oX L xs (x3 + (1 : Int32))).bind fun v85 => (oX L xs (x3 + (2 : Int32))).bind fun v86 => if cs + 0 + 0 ≤ 600000 ∧ ss + 0 + 0 ≤ 7302250 then ((oCk q84.2 x2 11).bind fun _ => (f_X12_gap N q84.2 x2 v85 v86).bind fun q87 => if q84.1 = q87.1 then (f_L_law_984 L xs N (f_L_law_18 L xs N n) q87.2 (cs + 0 + 0) (ss + 0 + 0) x1 x2 x3) else (if cs + 0 + 0 ≤ 600000 ∧ ss + 0 + 0 ≤ 7302250 then (if (0 : Int32) = 1 then some ((0 : Int32), q87.2) else none) else none)) else none) else none) else (if (v1 &&& (31 : Int32)) = (15 : Int32) then ((oX L xs (x3 + (1 : Int32))).bind fun v88 => (oX L xs (x3 + (2 : Int32))).bind fun v89 => if cs + 0 ≤ 600000 ∧ ss + 0 ≤ 7302250 then ((oCk A x1 10).bind fun _ => (f_X11_wrong N A x1 v88 v89).bind fun q90 => (oX L xs (x3 + (1 : Int32))).bind fun v91 => (oX L xs (x3 + (2 : Int32))).bind fun v92 => if cs + 0 + 0 ≤ 600000 ∧ ss + 0 + 0 ≤ 7302250 then ((oCk q90.2 x2 11).bind fun _ => (f_X12_wrong N q90.2 x2 v91 v92).bind fun q93 => if q90.1 = q93.1 then (f_L_law_984 L xs N (f_L_law_18 L xs N n) q93.2 (cs + 0 + 0) (ss + 0 + 0) x1 x2 x3) else (if cs + 0 + 0 ≤ 600000 ∧ ss + 0 + 0 ≤ 7302250 then (if (0 : Int32) = 1 then some ((0 : Int32), q93.2) else none) else none)) else none) else none) else (if (v1 &&& (31 : Int32)) = (16 : Int32) then ((oX L xs (x3 + (1 : Int32))).bind fun v94 => if cs + 0 ≤ 600000 ∧ ss + 0 ≤ 7302250 then ((oCk A x1 10).bind fun _ => (f_X11_soon N A x1 v94).bind fun q95 => (oX L xs (x3 + (1 : Int32))).bind fun v96 => if cs + 0 + 0 ≤ 600000 ∧ ss + 0 + 0 ≤ 7302250 then ((oCk q95.2 x2 11).bind fun _ => (f_X12_soon N q95.2 x2 v96).bind fun q97 => if q95.1 = q97.1 then (f_L_law_984 L xs N (f_L_law_18 L xs N n) q97.2 (cs + 0 + 0) (ss + 0 + 0) x1 x2 x3) else (if cs + 0 + 0 ≤ 600000 ∧ ss + 0 + 0 ≤ 7302250 then (if (0 : Int32) = 1 then some ((0 : Int32), q97.2) else none) else none)) else none) else none) else (if (v1 &&& (31 : Int32)) = (17 : Int32) then ((oX L xs (x3 + (1 : Int32))).bind fun v98 => if cs + 0 ≤ 600000 ∧ ss + 0 ≤ 7302250 then ((oCk A x1 10).bind fun _ => (f_X11_laws N A x1 v98).bind fun q99 => (oX L xs (x3 + (1 : Int32))).bind fun v100 => if cs + 0 + 0 ≤ 600000 ∧ ss + 0 + 0 ≤ 7302250 then ((oCk q99.2 x2 11).bind fun _ => (f_X12_laws N q99.2 x2 v100).bind fun q101 => if q99.1 = q101.1 then (f_L_law_984 L xs N (f_L_law_18 L xs N n) q101.2 (cs + 0 + 0) (ss + 0 + 0) x1 x2 x3) else (if cs + 0 + 0 ≤ 600000 ∧ ss + 0 + 0 ≤ 7302250 then (if (0 : Int32) = 1 then some ((0 : Int32), q101.2) else none) else none)) else none) else none) else (if (v1 &&& (31 : Int32)) = (18 : Int32) then ((oX L xs (x3 + (1 : Int32))).bind fun v102 => if cs + 0 ≤ 600000 ∧ ss + 0 ≤ 7302250 then ((oCk A x1 10).bind fun _ => (f_X11_error N A x1 v102).bind fun q103 => (oX L xs (x3 + (1 : Int32))).bind fun v104 => if cs + 0 + 0 ≤ 600000 ∧ ss + 0 + 0 ≤ 7302250 then ((oCk q103.2 x2 11).bind fun _ => (f_X12_error N q103.2 x2 v104).bind fun q105 => if q103.1 = q105.1 then (f_L_law_984 L xs N (f_L_law_18 L xs N n) q105.2 (cs + 0 + 0) (ss + 0 + 0) x1 x2 x3) else (if cs + 0 + 0 ≤ 600000 ∧ ss + 0 + 0 ≤ 7302250 then (if (0 : Int32) = 1 then some ((0 : Int32), q105.2) else none) else none)) else none) else none) else (if (v1 &&& (31 : Int32)) = (19 : Int32) then ((oX L xs (x3 + (1 : Int32))).bind fun v106 => (oX L xs (x3 + (2 : Int32))).bind fun v107 => if cs + 0 ≤ 600000 ∧ ss + 0 ≤ 7302250 then ((oCk A x1 10).bind fun _ => (f_X11_sold N A x1 v106 v107).bind fun q108 => (oX L xs (x3 + (1 : Int32))).bind fun v109 => (oX L xs (x3 + (2 : Int32))).bind fun v110 => if cs + 0 + 0 ≤ 600000 ∧ ss + 0 + 0 ≤ 7302250 then ((oCk q108.2 x2 11).bind fun _ => (f_X12_sold N q108.2 x2 v109 v110).bind fun q111 => if q108.1 = q111.1 then (f_L_law_984 L xs N (f_L_law_18 L xs N n) q111.2 (cs + 0 + 0) (ss + 0 + 0) x1 x2 x3) else (if cs + 0 + 0 ≤ 600000 ∧ ss + 0 + 0 ≤ 7302250 then (if (0 : Int32) = 1 then some ((0 : Int32), q111.2) else none) else none)) else none) else none) else (if (v1 &&& (31 : Int32)) = (20 : Int32) then ((oX L xs (x3 + (1 : Int32))).bind fun v112 => if cs + 0 ≤ 600000 ∧ ss + 0 ≤ 7302250 then ((oCk A x1 10).bind fun _ => (f_X11_image N A x1 v112).bind fun q113 => (oX L xs (x3 + (1 : Int32))).bind fun v114 => if cs + 0 + 0 ≤ 600000 ∧ ss + 0 + 0 ≤ 7302250 then ((oCk q113.2 x2 11).bind fun _ => (f_X12_image N q113.2 x2 v114).bind fun q115 => if q113.1 = q115.1 then (f_L_law_984 L xs N (f_L_law_18 L xs N n) q115.2 (cs + 0 + 0) (ss + 0 + 0) x1 x2 x3) else (if cs + 0 + 0 ≤ 600000 ∧ ss + 0 + 0 ≤ 7302250 then (if (0 : Int32) = 1 then some ((0 : Int32), q115.2) else none) else none)) else none) else none) else (if (v1 &&& (31 : Int32)) = (21 : Int32) then ((oX L xs (x3 + (1 : Int32))).bind fun v116 => if cs + 0 ≤ 600000 ∧ ss + 0 ≤ 7302250 then ((oCk A x1 10).bind fun _ => (f_X11_restore N A x1 v116).bind fun q117 => (oX L xs (x3 + (1 : Int32))).bind fun v118 => if cs + 0 + 0 ≤ 600000 ∧ ss + 0 + 0 ≤ 7302250 then ((oCk q117.2 x2 11).bind fun _ => (f_X12_restore N q117.2 x2 v118).bind fun q119 => if q117.1 = q119.1 then (f_L_law_984 L xs N (f_L_law_18 L xs N n) q119.2 (cs + 0 + 0) (ss + 0 + 0) x1 x2 x3) else (if cs + 0 + 0 ≤ 600000 ∧ ss + 0 + 0 ≤ 7302250 then (if (0 : Int32) = 1 then some ((0 : Int32), q119.2) else none) else none)) else none) else none) else (if (v1 &&& (31 : Int32)) = (22 : Int32) then ((oX L xs (x3 + (1 : Int32))).bind fun v120 => if cs + 0 ≤ 600000 ∧ ss + 0 ≤ 7302250 then ((oCk A x1 10).bind fun _ => (f_X11_kind N A x1 v120).bind fun q121 => (oX L xs (x3 + (1 : Int32))).bind fun v122 => if cs + 0 + 0 ≤ 600000 ∧ ss + 0 + 0 ≤ 7302250 then ((oCk q121.2 x2 11).bind fun _ => (f_X12_kind N q121.2 x2 v122).bind fun q123 => if q121.1 = q123.1 then (f_L_law_984 L xs N (f_L_law_18 L xs N n) q123.2 (cs + 0 + 0) (ss + 0 + 0) x1 x2 x3) else (if cs + 0 + 0 ≤ 600000 ∧ ss + 0 + 0 ≤ 7302250 then (if (0 : Int32) = 1 then some ((0 : Int32), q123.2) else none) else none)) else none) else none) else (if (v1 &&& (31 : Int32)) = (23 : Int32) then ((oX L xs (x3 + (1 : Int32))).bind fun v124 => (oX L xs (x3 + (2 : Int32))).bind fun v125 => if cs + 0 ≤ 600000 ∧ ss + 0 ≤ 7302250 then ((oCk A x1 10).bind fun _ => (f_X11_as N A x1 v124 v125).bind fun q126 => (oX L xs (x3 + (1 : Int32))).bind fun v127 => (oX L xs (x3 + (2 : Int32))).bind fun v128 => if cs + 0 + 0 ≤ 600000 ∧ ss + 0 + 0 ≤ 7302250 then ((oCk q126.2 x2 11).bind fun _ => (f_X12_as N q126.2 x2 v127 v128).bind fun q129 => if q126.1 = q129.1 then (f_L_law_984 L xs N (f_L_law_18 L xs N n) q129.2 (cs + 0 + 0) (ss + 0 + 0) x1 x2 x3) else (if cs + 0 + 0 ≤ 600000 ∧ ss + 0 + 0 ≤ 7302250 then (if (0 : Int32) = 1 then some ((0 : Int32), q129.2) else none) else none)) else none) else none) else (if (v1 &&& (31 : Int32)) = (24 : Int32) then ((oX L xs (x3 + (1 : Int32))).bind fun v130 => (oX L xs (x3 + (2 : Int32))).bind fun v131 => if cs + 0 ≤ 600000 ∧ ss + 0 ≤ 7302250 then ((oCk A x1 10).bind fun _ => (f_X11_ask N A x1 v130 v131).bind fun q132 => (oX L xs (x3 + (1 : Int32))).bind fun v133 => (oX L xs (x3 + (2 : Int32))).bind fun v134 => if cs + 0 + 0 ≤ 600000 ∧ ss + 0 + 0 ≤ 7302250 then ((oCk q132.2 x2 11).bind fun _ => (f_X12_ask N q132.2 x2 v133 v134).bind fun q135 => if q132.1 = q135.1 then (f_L_law_984 L xs N (f_L_law_18 L xs N n) q135.2 (cs + 0 + 0) (ss + 0 + 0) x1 x2 x3) else (if cs + 0 + 0 ≤ 600000 ∧ ss + 0 + 0 ≤ 7302250 then (if (0 : Int32) = 1 then some ((0 : Int32), q135.2) else none) else none)) else none) else none) else (if (v1 &&& (31 : Int32)) = (25 : Int32) then ((oX L xs (x3 + (1 : Int32))).bind fun v136 => if cs + 0 ≤ 600000 ∧ ss + 0 ≤ 7302250 then ((oCk A x1 10).bind fun _ => (f_X11_trace N A x1 v136).bind fun q137 => (oX L xs (x3 + (1 : Int32))).bind fun v138 => if cs + 0 + 0 ≤ 600000 ∧ ss + 0 + 0 ≤ 7302250 then ((oCk q137.2 x2 11).bind fun _ => (f_X12_trace N q137.2 x2 v138).bind fun q139 => if q137.1 = q139.1 then (f_L_law_984 L xs N (f_L_law_18 L xs N n) q139.2 (cs + 0 + 0) (ss + 0 + 0) x1 x2 x3) else (if cs + 0 + 0 ≤ 600000 ∧ ss + 0 + 0 ≤ 7302250 then (if (0 : Int32) = 1 then some ((0 : Int32), q139.2) else none) else none)) else none) else none) else (if (v1 &&& (31 : Int32)) = (26 : Int32) then ((oX L xs (x3 + (1 : Int32))).bind fun v140 => if cs + 0 ≤ 600000 ∧ ss + 0 ≤ 7302250 then ((oCk A x1 10).bind fun _ => (f_X11_count N A x1 v140).bind fun q141 => (oX L xs (x3 + (1 : Int32))).bind fun v142 => if cs + 0 + 0 ≤ 600000 ∧ ss + 0 + 0 ≤ 7302250 then ((oCk q141.2 x2 11).bind fun _ => (f_X12_count N q141.2 x2 v142).bind fun q143 => if q141.1 = q143.1 then (f_L_law_984 L xs N (f_L_law_18 L xs N n) q143.2 (cs + 0 + 0) (ss + 0 + 0) x1 x2 x3) else (if cs + 0 + 0 ≤ 600000 ∧ ss + 0 + 0 ≤ 7302250 then (if (0 : Int32) = 1 then some ((0 : Int32), q143.2) else none) else none)) else none) else none) else (if (v1 &&& (31 : Int32)) = (27 : Int32) then (if cs + 0 ≤ 600000 ∧ ss + 0 ≤ 7302250 then ((oCk A x1 10).bind fun _ => (f_X11_status N A x1).bind fun q144 => if cs + 0 + 0 ≤ 600000 ∧ ss + 0 + 0 ≤ 7302250 then ((oCk q144.2 x2 11).bind fun _ => (f_X12_status N q144.2 x2).bind fun q145 => if q144.1 = q145.1 then (f_L_law_984 L xs N (f_L_law_18 L xs N n) q145.2 (cs + 0 + 0) (ss + 0 + 0) x1 x2 x3) else (if cs + 0 + 0 ≤ 600000 ∧ ss + 0 + 0 ≤ 7302250 then (if (0 : Int32) = 1 then some ((0 : Int32), q145.2) else none) else none)) else none) else none) else (f_L_law_984 L xs N (f_L_law_18 L xs N n) A cs ss x1 x2 x3)))))))))))))))))))))))))))))
set_option maxRecDepth 20000 in
set_option maxHeartbeats 4000000 in
theorem t_L_law_18 {l : Launch} {G : gS} (L : Nat) (xs : Nat → Int32) (hG : g_Sc G L xs) (N : Nat) : ∀ (n : Nat) (A : hP) (cs ss : Nat) (x1 : Option Nat) (x2 : Option Nat) (x3 : Int32) (res : Int32 × hP), f_L_law_18 L xs N n A cs ss x1 x2 x3 = some res → AW l mL_law room_1 G (g_Ql G) A cs ss 18 [some (va_rf (some 1000300)), some (va_rf x1), some (va_rf x2), some (.int x3)] [] := by
  intro n
  induction n with
  | zero => intro A cs ss x1 x2 x3 res h; cases h
  | succ n ih =>
    intro A cs ss x1 x2 x3 res h
    rw [f_L_law_18] at h
    refine AW_iload_n dL_law_18 rfl ?_
    refine AW_aload_n dL_law_19 rfl ?_
    refine AW_slen hG dL_law_20 ?_
    refine AW_bipush (v := 6) dL_law_21 (by decide) ?_
    refine AW_isub dL_law_23 ?_
    refine AW_icmp_gt (tgt := 990) dL_law_24 (by decide) h (fun _ h => ?_) (fun _ h => ?_)
    · refine AW_iconst (v := 1) dL_law_990 (by decide) ?_
      refine AW_case h (fun hc h => ?_) (fun _ h => by cases h)
      exact AW_law1 dL_law_991 rfl hc h
    · refine AW_aload_n dL_law_27 rfl ?_
      refine AW_iload_n dL_law_28 rfl ?_
      refine AW_sld hG dL_law_29 h (fun v1 _ h => ?_)
      refine AW_bipush (v := 31) dL_law_30 (by decide) ?_
      refine AW_iand dL_law_32 ?_
      refine AW_case h (fun e33_0 h => ?_) (fun e33_0 h => ?_)
      · refine AW_tabIn (c := 0) (off := 127) (tgt := 160) dL_law_33 e33_0 (by decide) (by decide) (by decide) (by decide) ?_
        refine AW_aload_n dL_law_160 rfl ?_
        refine AW_aload_n dL_law_161 rfl ?_
        refine AW_iload_n dL_law_162 rfl ?_
        refine AW_iconst (v := 1) dL_law_163 (by decide) ?_
        refine AW_iadd dL_law_164 ?_
        refine AW_sld hG dL_law_165 h (fun v2 _ h => ?_)
        refine AW_aload_n dL_law_166 rfl ?_
        refine AW_iload_n dL_law_167 rfl ?_
        refine AW_iconst (v := 2) dL_law_168 (by decide) ?_
        refine AW_iadd dL_law_169 ?_
        refine AW_sld hG dL_law_170 h (fun v3 _ h => ?_)
        refine AW_aload_n dL_law_171 rfl ?_
        refine AW_iload_n dL_law_172 rfl ?_
        refine AW_iconst (v := 3) dL_law_173 (by decide) ?_
        refine AW_iadd dL_law_174 ?_
        refine AW_sld hG dL_law_175 h (fun v4 _ h => ?_)
        refine AW_case h (fun hc h => ?_) (fun _ h => by cases h)
        refine AW_callVi (y := yX11_row) (cc := cX11_row) (n := 4) (d := 1) (mc := 0) (ms := 0) (np := 3) (ret := (some .int)) (As := [.int v2, .int v3, .int v4]) (st := []) (ci := 10) dL_law_176 gT_s rfl tM_L_13 tI_X11_row tSel_X11_X11_X11_row tIni_X11 tY_X11_row (by decide +kernel) ⟨by decide, by decide⟩ hc (Nat.le_of_ble_eq_true rfl) rfl h (fun q hq => c_X11_row N _ _ _ _ _ q hq) (fun q5 _ h => ?_)
        refine AW_aload_n dL_law_179 rfl ?_
        refine AW_aload_n dL_law_180 rfl ?_
        refine AW_iload_n dL_law_181 rfl ?_
        refine AW_iconst (v := 1) dL_law_182 (by decide) ?_
        refine AW_iadd dL_law_183 ?_
        refine AW_sld hG dL_law_184 h (fun v6 _ h => ?_)
        refine AW_aload_n dL_law_185 rfl ?_
        refine AW_iload_n dL_law_186 rfl ?_
        refine AW_iconst (v := 2) dL_law_187 (by decide) ?_
        refine AW_iadd dL_law_188 ?_
        refine AW_sld hG dL_law_189 h (fun v7 _ h => ?_)
        refine AW_aload_n dL_law_190 rfl ?_
        refine AW_iload_n dL_law_191 rfl ?_
        refine AW_iconst (v := 3) dL_law_192 (by decide) ?_
        refine AW_iadd dL_law_193 ?_
        refine AW_sld hG dL_law_194 h (fun v8 _ h => ?_)
        refine AW_case h (fun hc h => ?_) (fun _ h => by cases h)
        refine AW_callVi (y := yX12_row) (cc := cX12_row) (n := 5) (d := 2) (mc := 0) (ms := 0) (np := 3) (ret := (some .int)) (As := [.int v6, .int v7, .int v8]) (st := [.int q5.1]) (ci := 11) dL_law_195 gT_s rfl tM_L_17 tI_X12_row tSel_X12_X12_X12_row tIni_X12 tY_X12_row (by decide +kernel) ⟨by decide, by decide⟩ hc (Nat.le_of_ble_eq_true rfl) rfl h (fun q hq => c_X12_row N _ _ _ _ _ q hq) (fun q9 _ h => ?_)
        refine AW_icmp_eq (tgt := 984) dL_law_198 (by decide) h (fun _ h => ?_) (fun _ h => ?_)
        · exact (t_L_law_984 L xs hG N (f_L_law_18 L xs N n) ih _ _ _ _ _ _ _ h)
        · refine AW_iconst (v := 0) dL_law_201 (by decide) ?_
          refine AW_case h (fun hc h => ?_) (fun _ h => by cases h)
          exact AW_law1 dL_law_202 rfl hc h
      refine AW_case h (fun e33_1 h => ?_) (fun e33_1 h => ?_)
      · refine AW_tabIn (c := 1) (off := 170) (tgt := 203) dL_law_33 e33_1 (by decide) (by decide) (by decide) (by decide) ?_
        refine AW_aload_n dL_law_203 rfl ?_
        refine AW_aload_n dL_law_204 rfl ?_
        refine AW_iload_n dL_law_205 rfl ?_
        refine AW_iconst (v := 1) dL_law_206 (by decide) ?_
        refine AW_iadd dL_law_207 ?_
        refine AW_sld hG dL_law_208 h (fun v10 _ h => ?_)
        refine AW_aload_n dL_law_209 rfl ?_
        refine AW_iload_n dL_law_210 rfl ?_
        refine AW_iconst (v := 2) dL_law_211 (by decide) ?_
        refine AW_iadd dL_law_212 ?_
        refine AW_sld hG dL_law_213 h (fun v11 _ h => ?_)
        refine AW_aload_n dL_law_214 rfl ?_
        refine AW_iload_n dL_law_215 rfl ?_
        refine AW_iconst (v := 3) dL_law_216 (by decide) ?_
        refine AW_iadd dL_law_217 ?_
        refine AW_sld hG dL_law_218 h (fun v12 _ h => ?_)
        refine AW_case h (fun hc h => ?_) (fun _ h => by cases h)
        refine AW_callVi (y := yX11_set) (cc := cX11_set) (n := 5) (d := 1) (mc := 0) (ms := 0) (np := 3) (ret := (some .int)) (As := [.int v10, .int v11, .int v12]) (st := []) (ci := 10) dL_law_219 gT_s rfl tM_L_18 tI_X11_set tSel_X11_X11_X11_set tIni_X11 tY_X11_set (by decide +kernel) ⟨by decide, by decide⟩ hc (Nat.le_of_ble_eq_true rfl) rfl h (fun q hq => c_X11_set N _ _ _ _ _ q hq) (fun q13 _ h => ?_)
        refine AW_aload_n dL_law_222 rfl ?_
        refine AW_aload_n dL_law_223 rfl ?_
        refine AW_iload_n dL_law_224 rfl ?_
        refine AW_iconst (v := 1) dL_law_225 (by decide) ?_
        refine AW_iadd dL_law_226 ?_
        refine AW_sld hG dL_law_227 h (fun v14 _ h => ?_)
        refine AW_aload_n dL_law_228 rfl ?_
        refine AW_iload_n dL_law_229 rfl ?_
        refine AW_iconst (v := 2) dL_law_230 (by decide) ?_
        refine AW_iadd dL_law_231 ?_
        refine AW_sld hG dL_law_232 h (fun v15 _ h => ?_)
        refine AW_aload_n dL_law_233 rfl ?_
        refine AW_iload_n dL_law_234 rfl ?_
        refine AW_iconst (v := 3) dL_law_235 (by decide) ?_
        refine AW_iadd dL_law_236 ?_
        refine AW_sld hG dL_law_237 h (fun v16 _ h => ?_)
        refine AW_case h (fun hc h => ?_) (fun _ h => by cases h)
        refine AW_callVi (y := yX12_set) (cc := cX12_set) (n := 4) (d := 2) (mc := 0) (ms := 0) (np := 3) (ret := (some .int)) (As := [.int v14, .int v15, .int v16]) (st := [.int q13.1]) (ci := 11) dL_law_238 gT_s rfl tM_L_21 tI_X12_set tSel_X12_X12_X12_set tIni_X12 tY_X12_set (by decide +kernel) ⟨by decide, by decide⟩ hc (Nat.le_of_ble_eq_true rfl) rfl h (fun q hq => c_X12_set N _ _ _ _ _ q hq) (fun q17 _ h => ?_)
        refine AW_icmp_eq (tgt := 984) dL_law_241 (by decide) h (fun _ h => ?_) (fun _ h => ?_)
        · exact (t_L_law_984 L xs hG N (f_L_law_18 L xs N n) ih _ _ _ _ _ _ _ h)
        · refine AW_iconst (v := 0) dL_law_244 (by decide) ?_
          refine AW_case h (fun hc h => ?_) (fun _ h => by cases h)
          exact AW_law1 dL_law_245 rfl hc h
      refine AW_case h (fun e33_2 h => ?_) (fun e33_2 h => ?_)
      · refine AW_tabIn (c := 2) (off := 213) (tgt := 246) dL_law_33 e33_2 (by decide) (by decide) (by decide) (by decide) ?_
        refine AW_aload_n dL_law_246 rfl ?_
        refine AW_aload_n dL_law_247 rfl ?_
        refine AW_iload_n dL_law_248 rfl ?_
        refine AW_iconst (v := 1) dL_law_249 (by decide) ?_
        refine AW_iadd dL_law_250 ?_
        refine AW_sld hG dL_law_251 h (fun v18 _ h => ?_)
        refine AW_aload_n dL_law_252 rfl ?_
        refine AW_iload_n dL_law_253 rfl ?_
        refine AW_iconst (v := 2) dL_law_254 (by decide) ?_
        refine AW_iadd dL_law_255 ?_
        refine AW_sld hG dL_law_256 h (fun v19 _ h => ?_)
        refine AW_aload_n dL_law_257 rfl ?_
        refine AW_iload_n dL_law_258 rfl ?_
        refine AW_iconst (v := 3) dL_law_259 (by decide) ?_
        refine AW_iadd dL_law_260 ?_
        refine AW_sld hG dL_law_261 h (fun v20 _ h => ?_)
        refine AW_aload_n dL_law_262 rfl ?_
        refine AW_iload_n dL_law_263 rfl ?_
        refine AW_iconst (v := 4) dL_law_264 (by decide) ?_
        refine AW_iadd dL_law_265 ?_
        refine AW_sld hG dL_law_266 h (fun v21 _ h => ?_)
        refine AW_aload_n dL_law_267 rfl ?_
        refine AW_iload_n dL_law_268 rfl ?_
        refine AW_iconst (v := 5) dL_law_269 (by decide) ?_
        refine AW_iadd dL_law_270 ?_
        refine AW_sld hG dL_law_271 h (fun v22 _ h => ?_)
        refine AW_case h (fun hc h => ?_) (fun _ h => by cases h)
        refine AW_callVi (y := yX11_copy) (cc := cX11_copy) (n := 8) (d := 1) (mc := 0) (ms := 0) (np := 5) (ret := (some .int)) (As := [.int v18, .int v19, .int v20, .int v21, .int v22]) (st := []) (ci := 10) dL_law_272 gT_s rfl tM_L_22 tI_X11_copy tSel_X11_X11_X11_copy tIni_X11 tY_X11_copy (by decide +kernel) ⟨by decide, by decide⟩ hc (Nat.le_of_ble_eq_true rfl) rfl h (fun q hq => c_X11_copy N _ _ _ _ _ _ _ q hq) (fun q23 _ h => ?_)
        refine AW_aload_n dL_law_275 rfl ?_
        refine AW_aload_n dL_law_276 rfl ?_
        refine AW_iload_n dL_law_277 rfl ?_
        refine AW_iconst (v := 1) dL_law_278 (by decide) ?_
        refine AW_iadd dL_law_279 ?_
        refine AW_sld hG dL_law_280 h (fun v24 _ h => ?_)
        refine AW_aload_n dL_law_281 rfl ?_
        refine AW_iload_n dL_law_282 rfl ?_
        refine AW_iconst (v := 2) dL_law_283 (by decide) ?_
        refine AW_iadd dL_law_284 ?_
        refine AW_sld hG dL_law_285 h (fun v25 _ h => ?_)
        refine AW_aload_n dL_law_286 rfl ?_
        refine AW_iload_n dL_law_287 rfl ?_
        refine AW_iconst (v := 3) dL_law_288 (by decide) ?_
        refine AW_iadd dL_law_289 ?_
        refine AW_sld hG dL_law_290 h (fun v26 _ h => ?_)
        refine AW_aload_n dL_law_291 rfl ?_
        refine AW_iload_n dL_law_292 rfl ?_
        refine AW_iconst (v := 4) dL_law_293 (by decide) ?_
        refine AW_iadd dL_law_294 ?_
        refine AW_sld hG dL_law_295 h (fun v27 _ h => ?_)
        refine AW_aload_n dL_law_296 rfl ?_
        refine AW_iload_n dL_law_297 rfl ?_
        refine AW_iconst (v := 5) dL_law_298 (by decide) ?_
        refine AW_iadd dL_law_299 ?_
        refine AW_sld hG dL_law_300 h (fun v28 _ h => ?_)
        refine AW_case h (fun hc h => ?_) (fun _ h => by cases h)
        refine AW_callVi (y := yX12_copy) (cc := cX12_copy) (n := 9) (d := 2) (mc := 0) (ms := 0) (np := 5) (ret := (some .int)) (As := [.int v24, .int v25, .int v26, .int v27, .int v28]) (st := [.int q23.1]) (ci := 11) dL_law_301 gT_s rfl tM_L_26 tI_X12_copy tSel_X12_X12_X12_copy tIni_X12 tY_X12_copy (by decide +kernel) ⟨by decide, by decide⟩ hc (Nat.le_of_ble_eq_true rfl) rfl h (fun q hq => c_X12_copy N _ _ _ _ _ _ _ q hq) (fun q29 _ h => ?_)
        refine AW_icmp_eq (tgt := 984) dL_law_304 (by decide) h (fun _ h => ?_) (fun _ h => ?_)
        · exact (t_L_law_984 L xs hG N (f_L_law_18 L xs N n) ih _ _ _ _ _ _ _ h)
        · refine AW_iconst (v := 0) dL_law_307 (by decide) ?_
          refine AW_case h (fun hc h => ?_) (fun _ h => by cases h)
          exact AW_law1 dL_law_308 rfl hc h
      refine AW_case h (fun e33_3 h => ?_) (fun e33_3 h => ?_)
      · refine AW_tabIn (c := 3) (off := 276) (tgt := 309) dL_law_33 e33_3 (by decide) (by decide) (by decide) (by decide) ?_
        refine AW_aload_n dL_law_309 rfl ?_
        refine AW_aload_n dL_law_310 rfl ?_
        refine AW_iload_n dL_law_311 rfl ?_
        refine AW_iconst (v := 1) dL_law_312 (by decide) ?_
        refine AW_iadd dL_law_313 ?_
        refine AW_sld hG dL_law_314 h (fun v30 _ h => ?_)
        refine AW_case h (fun hc h => ?_) (fun _ h => by cases h)
        refine AW_callVi (y := yX11_drop) (cc := cX11_drop) (n := 2) (d := 1) (mc := 0) (ms := 0) (np := 1) (ret := (some .int)) (As := [.int v30]) (st := []) (ci := 10) dL_law_315 gT_s rfl tM_L_27 tI_X11_drop tSel_X11_X11_X11_drop tIni_X11 tY_X11_drop (by decide +kernel) ⟨by decide, by decide⟩ hc (Nat.le_of_ble_eq_true rfl) rfl h (fun q hq => c_X11_drop N _ _ _ q hq) (fun q31 _ h => ?_)
        refine AW_aload_n dL_law_318 rfl ?_
        refine AW_aload_n dL_law_319 rfl ?_
        refine AW_iload_n dL_law_320 rfl ?_
        refine AW_iconst (v := 1) dL_law_321 (by decide) ?_
        refine AW_iadd dL_law_322 ?_
        refine AW_sld hG dL_law_323 h (fun v32 _ h => ?_)
        refine AW_case h (fun hc h => ?_) (fun _ h => by cases h)
        refine AW_callVi (y := yX12_drop) (cc := cX12_drop) (n := 2) (d := 2) (mc := 0) (ms := 0) (np := 1) (ret := (some .int)) (As := [.int v32]) (st := [.int q31.1]) (ci := 11) dL_law_324 gT_s rfl tM_L_31 tI_X12_drop tSel_X12_X12_X12_drop tIni_X12 tY_X12_drop (by decide +kernel) ⟨by decide, by decide⟩ hc (Nat.le_of_ble_eq_true rfl) rfl h (fun q hq => c_X12_drop N _ _ _ q hq) (fun q33 _ h => ?_)
        refine AW_icmp_eq (tgt := 984) dL_law_327 (by decide) h (fun _ h => ?_) (fun _ h => ?_)
        · exact (t_L_law_984 L xs hG N (f_L_law_18 L xs N n) ih _ _ _ _ _ _ _ h)
        · refine AW_iconst (v := 0) dL_law_330 (by decide) ?_
          refine AW_case h (fun hc h => ?_) (fun _ h => by cases h)
          exact AW_law1 dL_law_331 rfl hc h
      refine AW_case h (fun e33_4 h => ?_) (fun e33_4 h => ?_)
      · refine AW_tabIn (c := 4) (off := 299) (tgt := 332) dL_law_33 e33_4 (by decide) (by decide) (by decide) (by decide) ?_
        refine AW_aload_n dL_law_332 rfl ?_
        refine AW_aload_n dL_law_333 rfl ?_
        refine AW_iload_n dL_law_334 rfl ?_
        refine AW_iconst (v := 1) dL_law_335 (by decide) ?_
        refine AW_iadd dL_law_336 ?_
        refine AW_sld hG dL_law_337 h (fun v34 _ h => ?_)
        refine AW_i2l dL_law_338 ?_
        refine AW_bipush (v := 32) dL_law_339 (by decide) ?_
        refine AW_lshl dL_law_341 ?_
        refine AW_aload_n dL_law_342 rfl ?_
        refine AW_iload_n dL_law_343 rfl ?_
        refine AW_iconst (v := 2) dL_law_344 (by decide) ?_
        refine AW_iadd dL_law_345 ?_
        refine AW_sld hG dL_law_346 h (fun v35 _ h => ?_)
        refine AW_i2l dL_law_347 ?_
        refine AW_ldc2 (v := 4294967295) dL_law_348 (List.mem_cons_of_mem _ tL_L_32) ?_
        refine AW_land dL_law_351 ?_
        refine AW_lor dL_law_352 ?_
        refine AW_aload_n dL_law_353 rfl ?_
        refine AW_iload_n dL_law_354 rfl ?_
        refine AW_iconst (v := 3) dL_law_355 (by decide) ?_
        refine AW_iadd dL_law_356 ?_
        refine AW_sld hG dL_law_357 h (fun v36 _ h => ?_)
        refine AW_case h (fun hc h => ?_) (fun _ h => by cases h)
        refine AW_callVi (y := yX11_feed) (cc := cX11_feed) (n := 4) (d := 1) (mc := 0) (ms := 0) (np := 2) (ret := (some .int)) (As := [.long ((v34.toInt64 <<< ((32 : Int32).toInt64 &&& 63)) ||| (v35.toInt64 &&& (4294967295 : Int64))), .int v36]) (st := []) (ci := 10) dL_law_358 gT_s rfl tM_L_34 tI_X11_feed tSel_X11_X11_X11_feed tIni_X11 tY_X11_feed (by decide +kernel) ⟨by decide, by decide⟩ hc (Nat.le_of_ble_eq_true rfl) rfl h (fun q hq => c_X11_feed N _ _ _ _ q hq) (fun q37 _ h => ?_)
        refine AW_aload_n dL_law_361 rfl ?_
        refine AW_aload_n dL_law_362 rfl ?_
        refine AW_iload_n dL_law_363 rfl ?_
        refine AW_iconst (v := 1) dL_law_364 (by decide) ?_
        refine AW_iadd dL_law_365 ?_
        refine AW_sld hG dL_law_366 h (fun v38 _ h => ?_)
        refine AW_i2l dL_law_367 ?_
        refine AW_bipush (v := 32) dL_law_368 (by decide) ?_
        refine AW_lshl dL_law_370 ?_
        refine AW_aload_n dL_law_371 rfl ?_
        refine AW_iload_n dL_law_372 rfl ?_
        refine AW_iconst (v := 2) dL_law_373 (by decide) ?_
        refine AW_iadd dL_law_374 ?_
        refine AW_sld hG dL_law_375 h (fun v39 _ h => ?_)
        refine AW_i2l dL_law_376 ?_
        refine AW_ldc2 (v := 4294967295) dL_law_377 (List.mem_cons_of_mem _ tL_L_32) ?_
        refine AW_land dL_law_380 ?_
        refine AW_lor dL_law_381 ?_
        refine AW_aload_n dL_law_382 rfl ?_
        refine AW_iload_n dL_law_383 rfl ?_
        refine AW_iconst (v := 3) dL_law_384 (by decide) ?_
        refine AW_iadd dL_law_385 ?_
        refine AW_sld hG dL_law_386 h (fun v40 _ h => ?_)
        refine AW_case h (fun hc h => ?_) (fun _ h => by cases h)
        refine AW_callVi (y := yX12_feed) (cc := cX12_feed) (n := 5) (d := 1) (mc := 0) (ms := 0) (np := 2) (ret := (some .int)) (As := [.long ((v38.toInt64 <<< ((32 : Int32).toInt64 &&& 63)) ||| (v39.toInt64 &&& (4294967295 : Int64))), .int v40]) (st := [.int q37.1]) (ci := 11) dL_law_387 gT_s rfl tM_L_38 tI_X12_feed tSel_X12_X12_X12_feed tIni_X12 tY_X12_feed (by decide +kernel) ⟨by decide, by decide⟩ hc (Nat.le_of_ble_eq_true rfl) rfl h (fun q hq => c_X12_feed N _ _ _ _ q hq) (fun q41 _ h => ?_)
        refine AW_icmp_eq (tgt := 984) dL_law_390 (by decide) h (fun _ h => ?_) (fun _ h => ?_)
        · exact (t_L_law_984 L xs hG N (f_L_law_18 L xs N n) ih _ _ _ _ _ _ _ h)
        · refine AW_iconst (v := 0) dL_law_393 (by decide) ?_
          refine AW_case h (fun hc h => ?_) (fun _ h => by cases h)
          exact AW_law1 dL_law_394 rfl hc h
      refine AW_case h (fun e33_5 h => ?_) (fun e33_5 h => ?_)
      · refine AW_tabIn (c := 5) (off := 362) (tgt := 395) dL_law_33 e33_5 (by decide) (by decide) (by decide) (by decide) ?_
        refine AW_aload_n dL_law_395 rfl ?_
        refine AW_case h (fun hc h => ?_) (fun _ h => by cases h)
        refine AW_callVi (y := yX11_port) (cc := cX11_port) (n := 1) (d := 9) (mc := 4) (ms := 8) (np := 0) (ret := (some .int)) (As := []) (st := []) (ci := 10) dL_law_396 gT_s rfl tM_L_39 tI_X11_port tSel_X11_X11_X11_port tIni_X11 tY_X11_port (by decide +kernel) ⟨by decide, by decide⟩ hc (Nat.le_of_ble_eq_true rfl) rfl h (fun q hq => c_X11_port N _ _ q hq) (fun q42 _ h => ?_)
        refine AW_aload_n dL_law_399 rfl ?_
        refine AW_case h (fun hc h => ?_) (fun _ h => by cases h)
        refine AW_callVi (y := yX12_port) (cc := cX12_port) (n := 2) (d := 5) (mc := 0) (ms := 0) (np := 0) (ret := (some .int)) (As := []) (st := [.int q42.1]) (ci := 11) dL_law_400 gT_s rfl tM_L_43 tI_X12_port tSel_X12_X12_X12_port tIni_X12 tY_X12_port (by decide +kernel) ⟨by decide, by decide⟩ hc (Nat.le_of_ble_eq_true rfl) rfl h (fun q hq => c_X12_port N _ _ q hq) (fun q43 _ h => ?_)
        refine AW_icmp_eq (tgt := 984) dL_law_403 (by decide) h (fun _ h => ?_) (fun _ h => ?_)
        · exact (t_L_law_984 L xs hG N (f_L_law_18 L xs N n) ih _ _ _ _ _ _ _ h)
        · refine AW_iconst (v := 0) dL_law_406 (by decide) ?_
          refine AW_case h (fun hc h => ?_) (fun _ h => by cases h)
          exact AW_law1 dL_law_407 rfl hc h
      refine AW_case h (fun e33_6 h => ?_) (fun e33_6 h => ?_)
      · refine AW_tabIn (c := 6) (off := 375) (tgt := 408) dL_law_33 e33_6 (by decide) (by decide) (by decide) (by decide) ?_
        refine AW_aload_n dL_law_408 rfl ?_
        refine AW_case h (fun hc h => ?_) (fun _ h => by cases h)
        refine AW_callVi (y := yX11_fault) (cc := cX11_fault) (n := 1) (d := 0) (mc := 0) (ms := 0) (np := 0) (ret := (some .int)) (As := []) (st := []) (ci := 10) dL_law_409 gT_s rfl tM_L_44 tI_X11_fault tSel_X11_X11_X11_fault tIni_X11 tY_X11_fault (by decide +kernel) ⟨by decide, by decide⟩ hc (Nat.le_of_ble_eq_true rfl) rfl h (fun q hq => c_X11_fault N _ _ q hq) (fun q44 _ h => ?_)
        refine AW_aload_n dL_law_412 rfl ?_
        refine AW_case h (fun hc h => ?_) (fun _ h => by cases h)
        refine AW_callVi (y := yX12_fault) (cc := cX12_fault) (n := 1) (d := 0) (mc := 0) (ms := 0) (np := 0) (ret := (some .int)) (As := []) (st := [.int q44.1]) (ci := 11) dL_law_413 gT_s rfl tM_L_47 tI_X12_fault tSel_X12_X12_X12_fault tIni_X12 tY_X12_fault (by decide +kernel) ⟨by decide, by decide⟩ hc (Nat.le_of_ble_eq_true rfl) rfl h (fun q hq => c_X12_fault N _ _ q hq) (fun q45 _ h => ?_)
        refine AW_icmp_eq (tgt := 984) dL_law_416 (by decide) h (fun _ h => ?_) (fun _ h => ?_)
        · exact (t_L_law_984 L xs hG N (f_L_law_18 L xs N n) ih _ _ _ _ _ _ _ h)
        · refine AW_iconst (v := 0) dL_law_419 (by decide) ?_
          refine AW_case h (fun hc h => ?_) (fun _ h => by cases h)
          exact AW_law1 dL_law_420 rfl hc h
      refine AW_case h (fun e33_7 h => ?_) (fun e33_7 h => ?_)
      · refine AW_tabIn (c := 7) (off := 388) (tgt := 421) dL_law_33 e33_7 (by decide) (by decide) (by decide) (by decide) ?_
        refine AW_aload_n dL_law_421 rfl ?_
        refine AW_aload_n dL_law_422 rfl ?_
        refine AW_iload_n dL_law_423 rfl ?_
        refine AW_iconst (v := 1) dL_law_424 (by decide) ?_
        refine AW_iadd dL_law_425 ?_
        refine AW_sld hG dL_law_426 h (fun v46 _ h => ?_)
        refine AW_case h (fun hc h => ?_) (fun _ h => by cases h)
        refine AW_callVi (y := yX11_day) (cc := cX11_day) (n := 2) (d := 4) (mc := 0) (ms := 0) (np := 1) (ret := (some .int)) (As := [.int v46]) (st := []) (ci := 10) dL_law_427 gT_s rfl tM_L_48 tI_X11_day tSel_X11_X11_X11_day tIni_X11 tY_X11_day (by decide +kernel) ⟨by decide, by decide⟩ hc (Nat.le_of_ble_eq_true rfl) rfl h (fun q hq => c_X11_day N _ _ _ q hq) (fun q47 _ h => ?_)
        refine AW_aload_n dL_law_430 rfl ?_
        refine AW_aload_n dL_law_431 rfl ?_
        refine AW_iload_n dL_law_432 rfl ?_
        refine AW_iconst (v := 1) dL_law_433 (by decide) ?_
        refine AW_iadd dL_law_434 ?_
        refine AW_sld hG dL_law_435 h (fun v48 _ h => ?_)
        refine AW_case h (fun hc h => ?_) (fun _ h => by cases h)
        refine AW_callVi (y := yX12_day) (cc := cX12_day) (n := 2) (d := 4) (mc := 0) (ms := 0) (np := 1) (ret := (some .int)) (As := [.int v48]) (st := [.int q47.1]) (ci := 11) dL_law_436 gT_s rfl tM_L_51 tI_X12_day tSel_X12_X12_X12_day tIni_X12 tY_X12_day (by decide +kernel) ⟨by decide, by decide⟩ hc (Nat.le_of_ble_eq_true rfl) rfl h (fun q hq => c_X12_day N _ _ _ q hq) (fun q49 _ h => ?_)
        refine AW_icmp_eq (tgt := 984) dL_law_439 (by decide) h (fun _ h => ?_) (fun _ h => ?_)
        · exact (t_L_law_984 L xs hG N (f_L_law_18 L xs N n) ih _ _ _ _ _ _ _ h)
        · refine AW_iconst (v := 0) dL_law_442 (by decide) ?_
          refine AW_case h (fun hc h => ?_) (fun _ h => by cases h)
          exact AW_law1 dL_law_443 rfl hc h
      refine AW_case h (fun e33_8 h => ?_) (fun e33_8 h => ?_)
      · refine AW_tabIn (c := 8) (off := 411) (tgt := 444) dL_law_33 e33_8 (by decide) (by decide) (by decide) (by decide) ?_
        refine AW_aload_n dL_law_444 rfl ?_
        refine AW_case h (fun hc h => ?_) (fun _ h => by cases h)
        refine AW_callVi (y := yX11_undo) (cc := cX11_undo) (n := 1) (d := 1) (mc := 0) (ms := 0) (np := 0) (ret := (some .int)) (As := []) (st := []) (ci := 10) dL_law_445 gT_s rfl tM_L_52 tI_X11_undo tSel_X11_X11_X11_undo tIni_X11 tY_X11_undo (by decide +kernel) ⟨by decide, by decide⟩ hc (Nat.le_of_ble_eq_true rfl) rfl h (fun q hq => c_X11_undo N _ _ q hq) (fun q50 _ h => ?_)
        refine AW_aload_n dL_law_448 rfl ?_
        refine AW_case h (fun hc h => ?_) (fun _ h => by cases h)
        refine AW_callVi (y := yX12_undo) (cc := cX12_undo) (n := 1) (d := 0) (mc := 0) (ms := 0) (np := 0) (ret := (some .int)) (As := []) (st := [.int q50.1]) (ci := 11) dL_law_449 gT_s rfl tM_L_55 tI_X12_undo tSel_X12_X12_X12_undo tIni_X12 tY_X12_undo (by decide +kernel) ⟨by decide, by decide⟩ hc (Nat.le_of_ble_eq_true rfl) rfl h (fun q hq => c_X12_undo N _ _ q hq) (fun q51 _ h => ?_)
        refine AW_icmp_eq (tgt := 984) dL_law_452 (by decide) h (fun _ h => ?_) (fun _ h => ?_)
        · exact (t_L_law_984 L xs hG N (f_L_law_18 L xs N n) ih _ _ _ _ _ _ _ h)
        · refine AW_iconst (v := 0) dL_law_455 (by decide) ?_
          refine AW_case h (fun hc h => ?_) (fun _ h => by cases h)
          exact AW_law1 dL_law_456 rfl hc h
      refine AW_case h (fun e33_9 h => ?_) (fun e33_9 h => ?_)
      · refine AW_tabIn (c := 9) (off := 424) (tgt := 457) dL_law_33 e33_9 (by decide) (by decide) (by decide) (by decide) ?_
        refine AW_aload_n dL_law_457 rfl ?_
        refine AW_aload_n dL_law_458 rfl ?_
        refine AW_iload_n dL_law_459 rfl ?_
        refine AW_iconst (v := 1) dL_law_460 (by decide) ?_
        refine AW_iadd dL_law_461 ?_
        refine AW_sld hG dL_law_462 h (fun v52 _ h => ?_)
        refine AW_aload_n dL_law_463 rfl ?_
        refine AW_iload_n dL_law_464 rfl ?_
        refine AW_iconst (v := 2) dL_law_465 (by decide) ?_
        refine AW_iadd dL_law_466 ?_
        refine AW_sld hG dL_law_467 h (fun v53 _ h => ?_)
        refine AW_case h (fun hc h => ?_) (fun _ h => by cases h)
        refine AW_callVi (y := yX11_shown) (cc := cX11_shown) (n := 3) (d := 4) (mc := 0) (ms := 0) (np := 2) (ret := (some .int)) (As := [.int v52, .int v53]) (st := []) (ci := 10) dL_law_468 gT_s rfl tM_L_56 tI_X11_shown tSel_X11_X11_X11_shown tIni_X11 tY_X11_shown (by decide +kernel) ⟨by decide, by decide⟩ hc (Nat.le_of_ble_eq_true rfl) rfl h (fun q hq => c_X11_shown N _ _ _ _ q hq) (fun q54 _ h => ?_)
        refine AW_aload_n dL_law_471 rfl ?_
        refine AW_aload_n dL_law_472 rfl ?_
        refine AW_iload_n dL_law_473 rfl ?_
        refine AW_iconst (v := 1) dL_law_474 (by decide) ?_
        refine AW_iadd dL_law_475 ?_
        refine AW_sld hG dL_law_476 h (fun v55 _ h => ?_)
        refine AW_aload_n dL_law_477 rfl ?_
        refine AW_iload_n dL_law_478 rfl ?_
        refine AW_iconst (v := 2) dL_law_479 (by decide) ?_
        refine AW_iadd dL_law_480 ?_
        refine AW_sld hG dL_law_481 h (fun v56 _ h => ?_)
        refine AW_case h (fun hc h => ?_) (fun _ h => by cases h)
        refine AW_callVi (y := yX12_shown) (cc := cX12_shown) (n := 3) (d := 4) (mc := 0) (ms := 0) (np := 2) (ret := (some .int)) (As := [.int v55, .int v56]) (st := [.int q54.1]) (ci := 11) dL_law_482 gT_s rfl tM_L_60 tI_X12_shown tSel_X12_X12_X12_shown tIni_X12 tY_X12_shown (by decide +kernel) ⟨by decide, by decide⟩ hc (Nat.le_of_ble_eq_true rfl) rfl h (fun q hq => c_X12_shown N _ _ _ _ q hq) (fun q57 _ h => ?_)
        refine AW_icmp_eq (tgt := 984) dL_law_485 (by decide) h (fun _ h => ?_) (fun _ h => ?_)
        · exact (t_L_law_984 L xs hG N (f_L_law_18 L xs N n) ih _ _ _ _ _ _ _ h)
        · refine AW_iconst (v := 0) dL_law_488 (by decide) ?_
          refine AW_case h (fun hc h => ?_) (fun _ h => by cases h)
          exact AW_law1 dL_law_489 rfl hc h
      refine AW_case h (fun e33_10 h => ?_) (fun e33_10 h => ?_)
      · refine AW_tabIn (c := 10) (off := 457) (tgt := 490) dL_law_33 e33_10 (by decide) (by decide) (by decide) (by decide) ?_
        refine AW_aload_n dL_law_490 rfl ?_
        refine AW_aload_n dL_law_491 rfl ?_
        refine AW_iload_n dL_law_492 rfl ?_
        refine AW_iconst (v := 1) dL_law_493 (by decide) ?_
        refine AW_iadd dL_law_494 ?_
        refine AW_sld hG dL_law_495 h (fun v58 _ h => ?_)
        refine AW_aload_n dL_law_496 rfl ?_
        refine AW_iload_n dL_law_497 rfl ?_
        refine AW_iconst (v := 2) dL_law_498 (by decide) ?_
        refine AW_iadd dL_law_499 ?_
        refine AW_sld hG dL_law_500 h (fun v59 _ h => ?_)
        refine AW_case h (fun hc h => ?_) (fun _ h => by cases h)
        refine AW_callVi (y := yX11_heavy) (cc := cX11_heavy) (n := 4) (d := 1) (mc := 0) (ms := 0) (np := 2) (ret := (some .int)) (As := [.int v58, .int v59]) (st := []) (ci := 10) dL_law_501 gT_s rfl tM_L_61 tI_X11_heavy tSel_X11_X11_X11_heavy tIni_X11 tY_X11_heavy (by decide +kernel) ⟨by decide, by decide⟩ hc (Nat.le_of_ble_eq_true rfl) rfl h (fun q hq => c_X11_heavy N _ _ _ _ q hq) (fun q60 _ h => ?_)
        refine AW_aload_n dL_law_504 rfl ?_
        refine AW_aload_n dL_law_505 rfl ?_
        refine AW_iload_n dL_law_506 rfl ?_
        refine AW_iconst (v := 1) dL_law_507 (by decide) ?_
        refine AW_iadd dL_law_508 ?_
        refine AW_sld hG dL_law_509 h (fun v61 _ h => ?_)
        refine AW_aload_n dL_law_510 rfl ?_
        refine AW_iload_n dL_law_511 rfl ?_
        refine AW_iconst (v := 2) dL_law_512 (by decide) ?_
        refine AW_iadd dL_law_513 ?_
        refine AW_sld hG dL_law_514 h (fun v62 _ h => ?_)
        refine AW_case h (fun hc h => ?_) (fun _ h => by cases h)
        refine AW_callVi (y := yX12_heavy) (cc := cX12_heavy) (n := 3) (d := 2) (mc := 0) (ms := 0) (np := 2) (ret := (some .int)) (As := [.int v61, .int v62]) (st := [.int q60.1]) (ci := 11) dL_law_515 gT_s rfl tM_L_64 tI_X12_heavy tSel_X12_X12_X12_heavy tIni_X12 tY_X12_heavy (by decide +kernel) ⟨by decide, by decide⟩ hc (Nat.le_of_ble_eq_true rfl) rfl h (fun q hq => c_X12_heavy N _ _ _ _ q hq) (fun q63 _ h => ?_)
        refine AW_icmp_eq (tgt := 984) dL_law_518 (by decide) h (fun _ h => ?_) (fun _ h => ?_)
        · exact (t_L_law_984 L xs hG N (f_L_law_18 L xs N n) ih _ _ _ _ _ _ _ h)
        · refine AW_iconst (v := 0) dL_law_521 (by decide) ?_
          refine AW_case h (fun hc h => ?_) (fun _ h => by cases h)
          exact AW_law1 dL_law_522 rfl hc h
      refine AW_case h (fun e33_11 h => ?_) (fun e33_11 h => ?_)
      · refine AW_tabIn (c := 11) (off := 490) (tgt := 523) dL_law_33 e33_11 (by decide) (by decide) (by decide) (by decide) ?_
        refine AW_aload_n dL_law_523 rfl ?_
        refine AW_aload_n dL_law_524 rfl ?_
        refine AW_iload_n dL_law_525 rfl ?_
        refine AW_iconst (v := 1) dL_law_526 (by decide) ?_
        refine AW_iadd dL_law_527 ?_
        refine AW_sld hG dL_law_528 h (fun v64 _ h => ?_)
        refine AW_case h (fun hc h => ?_) (fun _ h => by cases h)
        refine AW_callVi (y := yX11_next) (cc := cX11_next) (n := 2) (d := 4) (mc := 0) (ms := 0) (np := 1) (ret := (some .int)) (As := [.int v64]) (st := []) (ci := 10) dL_law_529 gT_s rfl tM_L_65 tI_X11_next tSel_X11_X11_X11_next tIni_X11 tY_X11_next (by decide +kernel) ⟨by decide, by decide⟩ hc (Nat.le_of_ble_eq_true rfl) rfl h (fun q hq => c_X11_next N _ _ _ q hq) (fun q65 _ h => ?_)
        refine AW_aload_n dL_law_532 rfl ?_
        refine AW_aload_n dL_law_533 rfl ?_
        refine AW_iload_n dL_law_534 rfl ?_
        refine AW_iconst (v := 1) dL_law_535 (by decide) ?_
        refine AW_iadd dL_law_536 ?_
        refine AW_sld hG dL_law_537 h (fun v66 _ h => ?_)
        refine AW_case h (fun hc h => ?_) (fun _ h => by cases h)
        refine AW_callVi (y := yX12_next) (cc := cX12_next) (n := 2) (d := 4) (mc := 0) (ms := 0) (np := 1) (ret := (some .int)) (As := [.int v66]) (st := [.int q65.1]) (ci := 11) dL_law_538 gT_s rfl tM_L_68 tI_X12_next tSel_X12_X12_X12_next tIni_X12 tY_X12_next (by decide +kernel) ⟨by decide, by decide⟩ hc (Nat.le_of_ble_eq_true rfl) rfl h (fun q hq => c_X12_next N _ _ _ q hq) (fun q67 _ h => ?_)
        refine AW_icmp_eq (tgt := 984) dL_law_541 (by decide) h (fun _ h => ?_) (fun _ h => ?_)
        · exact (t_L_law_984 L xs hG N (f_L_law_18 L xs N n) ih _ _ _ _ _ _ _ h)
        · refine AW_iconst (v := 0) dL_law_544 (by decide) ?_
          refine AW_case h (fun hc h => ?_) (fun _ h => by cases h)
          exact AW_law1 dL_law_545 rfl hc h
      refine AW_case h (fun e33_12 h => ?_) (fun e33_12 h => ?_)
      · refine AW_tabIn (c := 12) (off := 513) (tgt := 546) dL_law_33 e33_12 (by decide) (by decide) (by decide) (by decide) ?_
        refine AW_aload_n dL_law_546 rfl ?_
        refine AW_aload_n dL_law_547 rfl ?_
        refine AW_iload_n dL_law_548 rfl ?_
        refine AW_iconst (v := 1) dL_law_549 (by decide) ?_
        refine AW_iadd dL_law_550 ?_
        refine AW_sld hG dL_law_551 h (fun v68 _ h => ?_)
        refine AW_aload_n dL_law_552 rfl ?_
        refine AW_iload_n dL_law_553 rfl ?_
        refine AW_iconst (v := 2) dL_law_554 (by decide) ?_
        refine AW_iadd dL_law_555 ?_
        refine AW_sld hG dL_law_556 h (fun v69 _ h => ?_)
        refine AW_aload_n dL_law_557 rfl ?_
        refine AW_iload_n dL_law_558 rfl ?_
        refine AW_iconst (v := 3) dL_law_559 (by decide) ?_
        refine AW_iadd dL_law_560 ?_
        refine AW_sld hG dL_law_561 h (fun v70 _ h => ?_)
        refine AW_case h (fun hc h => ?_) (fun _ h => by cases h)
        refine AW_callVi (y := yX11_fits) (cc := cX11_fits) (n := 7) (d := 6) (mc := 0) (ms := 0) (np := 3) (ret := (some .int)) (As := [.int v68, .int v69, .int v70]) (st := []) (ci := 10) dL_law_562 gT_s rfl tM_L_69 tI_X11_fits tSel_X11_X11_X11_fits tIni_X11 tY_X11_fits (by decide +kernel) ⟨by decide, by decide⟩ hc (Nat.le_of_ble_eq_true rfl) rfl h (fun q hq => c_X11_fits N _ _ _ _ _ q hq) (fun q71 _ h => ?_)
        refine AW_aload_n dL_law_565 rfl ?_
        refine AW_aload_n dL_law_566 rfl ?_
        refine AW_iload_n dL_law_567 rfl ?_
        refine AW_iconst (v := 1) dL_law_568 (by decide) ?_
        refine AW_iadd dL_law_569 ?_
        refine AW_sld hG dL_law_570 h (fun v72 _ h => ?_)
        refine AW_aload_n dL_law_571 rfl ?_
        refine AW_iload_n dL_law_572 rfl ?_
        refine AW_iconst (v := 2) dL_law_573 (by decide) ?_
        refine AW_iadd dL_law_574 ?_
        refine AW_sld hG dL_law_575 h (fun v73 _ h => ?_)
        refine AW_aload_n dL_law_576 rfl ?_
        refine AW_iload_n dL_law_577 rfl ?_
        refine AW_iconst (v := 3) dL_law_578 (by decide) ?_
        refine AW_iadd dL_law_579 ?_
        refine AW_sld hG dL_law_580 h (fun v74 _ h => ?_)
        refine AW_case h (fun hc h => ?_) (fun _ h => by cases h)
        refine AW_callVi (y := yX12_fits) (cc := cX12_fits) (n := 7) (d := 5) (mc := 0) (ms := 0) (np := 3) (ret := (some .int)) (As := [.int v72, .int v73, .int v74]) (st := [.int q71.1]) (ci := 11) dL_law_581 gT_s rfl tM_L_72 tI_X12_fits tSel_X12_X12_X12_fits tIni_X12 tY_X12_fits (by decide +kernel) ⟨by decide, by decide⟩ hc (Nat.le_of_ble_eq_true rfl) rfl h (fun q hq => c_X12_fits N _ _ _ _ _ q hq) (fun q75 _ h => ?_)
        refine AW_icmp_eq (tgt := 984) dL_law_584 (by decide) h (fun _ h => ?_) (fun _ h => ?_)
        · exact (t_L_law_984 L xs hG N (f_L_law_18 L xs N n) ih _ _ _ _ _ _ _ h)
        · refine AW_iconst (v := 0) dL_law_587 (by decide) ?_
          refine AW_case h (fun hc h => ?_) (fun _ h => by cases h)
          exact AW_law1 dL_law_588 rfl hc h
      refine AW_case h (fun e33_13 h => ?_) (fun e33_13 h => ?_)
      · refine AW_tabIn (c := 13) (off := 556) (tgt := 589) dL_law_33 e33_13 (by decide) (by decide) (by decide) (by decide) ?_
        refine AW_aload_n dL_law_589 rfl ?_
        refine AW_aload_n dL_law_590 rfl ?_
        refine AW_iload_n dL_law_591 rfl ?_
        refine AW_iconst (v := 1) dL_law_592 (by decide) ?_
        refine AW_iadd dL_law_593 ?_
        refine AW_sld hG dL_law_594 h (fun v76 _ h => ?_)
        refine AW_aload_n dL_law_595 rfl ?_
        refine AW_iload_n dL_law_596 rfl ?_
        refine AW_iconst (v := 2) dL_law_597 (by decide) ?_
        refine AW_iadd dL_law_598 ?_
        refine AW_sld hG dL_law_599 h (fun v77 _ h => ?_)
        refine AW_case h (fun hc h => ?_) (fun _ h => by cases h)
        refine AW_callVi (y := yX11_sure) (cc := cX11_sure) (n := 4) (d := 6) (mc := 0) (ms := 0) (np := 2) (ret := (some .int)) (As := [.int v76, .int v77]) (st := []) (ci := 10) dL_law_600 gT_s rfl tM_L_73 tI_X11_sure tSel_X11_X11_X11_sure tIni_X11 tY_X11_sure (by decide +kernel) ⟨by decide, by decide⟩ hc (Nat.le_of_ble_eq_true rfl) rfl h (fun q hq => c_X11_sure N _ _ _ _ q hq) (fun q78 _ h => ?_)
        refine AW_aload_n dL_law_603 rfl ?_
        refine AW_aload_n dL_law_604 rfl ?_
        refine AW_iload_n dL_law_605 rfl ?_
        refine AW_iconst (v := 1) dL_law_606 (by decide) ?_
        refine AW_iadd dL_law_607 ?_
        refine AW_sld hG dL_law_608 h (fun v79 _ h => ?_)
        refine AW_aload_n dL_law_609 rfl ?_
        refine AW_iload_n dL_law_610 rfl ?_
        refine AW_iconst (v := 2) dL_law_611 (by decide) ?_
        refine AW_iadd dL_law_612 ?_
        refine AW_sld hG dL_law_613 h (fun v80 _ h => ?_)
        refine AW_case h (fun hc h => ?_) (fun _ h => by cases h)
        refine AW_callVi (y := yX12_sure) (cc := cX12_sure) (n := 6) (d := 5) (mc := 0) (ms := 0) (np := 2) (ret := (some .int)) (As := [.int v79, .int v80]) (st := [.int q78.1]) (ci := 11) dL_law_614 gT_s rfl tM_L_76 tI_X12_sure tSel_X12_X12_X12_sure tIni_X12 tY_X12_sure (by decide +kernel) ⟨by decide, by decide⟩ hc (Nat.le_of_ble_eq_true rfl) rfl h (fun q hq => c_X12_sure N _ _ _ _ q hq) (fun q81 _ h => ?_)
        refine AW_icmp_eq (tgt := 984) dL_law_617 (by decide) h (fun _ h => ?_) (fun _ h => ?_)
        · exact (t_L_law_984 L xs hG N (f_L_law_18 L xs N n) ih _ _ _ _ _ _ _ h)
        · refine AW_iconst (v := 0) dL_law_620 (by decide) ?_
          refine AW_case h (fun hc h => ?_) (fun _ h => by cases h)
          exact AW_law1 dL_law_621 rfl hc h
      refine AW_case h (fun e33_14 h => ?_) (fun e33_14 h => ?_)
      · refine AW_tabIn (c := 14) (off := 589) (tgt := 622) dL_law_33 e33_14 (by decide) (by decide) (by decide) (by decide) ?_
        refine AW_aload_n dL_law_622 rfl ?_
        refine AW_aload_n dL_law_623 rfl ?_
        refine AW_iload_n dL_law_624 rfl ?_
        refine AW_iconst (v := 1) dL_law_625 (by decide) ?_
        refine AW_iadd dL_law_626 ?_
        refine AW_sld hG dL_law_627 h (fun v82 _ h => ?_)
        refine AW_aload_n dL_law_628 rfl ?_
        refine AW_iload_n dL_law_629 rfl ?_
        refine AW_iconst (v := 2) dL_law_630 (by decide) ?_
        refine AW_iadd dL_law_631 ?_
        refine AW_sld hG dL_law_632 h (fun v83 _ h => ?_)
        refine AW_case h (fun hc h => ?_) (fun _ h => by cases h)
        refine AW_callVi (y := yX11_gap) (cc := cX11_gap) (n := 4) (d := 6) (mc := 0) (ms := 0) (np := 2) (ret := (some .int)) (As := [.int v82, .int v83]) (st := []) (ci := 10) dL_law_633 gT_s rfl tM_L_77 tI_X11_gap tSel_X11_X11_X11_gap tIni_X11 tY_X11_gap (by decide +kernel) ⟨by decide, by decide⟩ hc (Nat.le_of_ble_eq_true rfl) rfl h (fun q hq => c_X11_gap N _ _ _ _ q hq) (fun q84 _ h => ?_)
        refine AW_aload_n dL_law_636 rfl ?_
        refine AW_aload_n dL_law_637 rfl ?_
        refine AW_iload_n dL_law_638 rfl ?_
        refine AW_iconst (v := 1) dL_law_639 (by decide) ?_
        refine AW_iadd dL_law_640 ?_
        refine AW_sld hG dL_law_641 h (fun v85 _ h => ?_)
        refine AW_aload_n dL_law_642 rfl ?_
        refine AW_iload_n dL_law_643 rfl ?_
        refine AW_iconst (v := 2) dL_law_644 (by decide) ?_
        refine AW_iadd dL_law_645 ?_
        refine AW_sld hG dL_law_646 h (fun v86 _ h => ?_)
        refine AW_case h (fun hc h => ?_) (fun _ h => by cases h)
        refine AW_callVi (y := yX12_gap) (cc := cX12_gap) (n := 7) (d := 5) (mc := 0) (ms := 0) (np := 2) (ret := (some .int)) (As := [.int v85, .int v86]) (st := [.int q84.1]) (ci := 11) dL_law_647 gT_s rfl tM_L_80 tI_X12_gap tSel_X12_X12_X12_gap tIni_X12 tY_X12_gap (by decide +kernel) ⟨by decide, by decide⟩ hc (Nat.le_of_ble_eq_true rfl) rfl h (fun q hq => c_X12_gap N _ _ _ _ q hq) (fun q87 _ h => ?_)
        refine AW_icmp_eq (tgt := 984) dL_law_650 (by decide) h (fun _ h => ?_) (fun _ h => ?_)
        · exact (t_L_law_984 L xs hG N (f_L_law_18 L xs N n) ih _ _ _ _ _ _ _ h)
        · refine AW_iconst (v := 0) dL_law_653 (by decide) ?_
          refine AW_case h (fun hc h => ?_) (fun _ h => by cases h)
          exact AW_law1 dL_law_654 rfl hc h
      refine AW_case h (fun e33_15 h => ?_) (fun e33_15 h => ?_)
      · refine AW_tabIn (c := 15) (off := 622) (tgt := 655) dL_law_33 e33_15 (by decide) (by decide) (by decide) (by decide) ?_
        refine AW_aload_n dL_law_655 rfl ?_
        refine AW_aload_n dL_law_656 rfl ?_
        refine AW_iload_n dL_law_657 rfl ?_
        refine AW_iconst (v := 1) dL_law_658 (by decide) ?_
        refine AW_iadd dL_law_659 ?_
        refine AW_sld hG dL_law_660 h (fun v88 _ h => ?_)
        refine AW_aload_n dL_law_661 rfl ?_
        refine AW_iload_n dL_law_662 rfl ?_
        refine AW_iconst (v := 2) dL_law_663 (by decide) ?_
        refine AW_iadd dL_law_664 ?_
        refine AW_sld hG dL_law_665 h (fun v89 _ h => ?_)
        refine AW_case h (fun hc h => ?_) (fun _ h => by cases h)
        refine AW_callVi (y := yX11_wrong) (cc := cX11_wrong) (n := 5) (d := 6) (mc := 0) (ms := 0) (np := 2) (ret := (some .int)) (As := [.int v88, .int v89]) (st := []) (ci := 10) dL_law_666 gT_s rfl tM_L_81 tI_X11_wrong tSel_X11_X11_X11_wrong tIni_X11 tY_X11_wrong (by decide +kernel) ⟨by decide, by decide⟩ hc (Nat.le_of_ble_eq_true rfl) rfl h (fun q hq => c_X11_wrong N _ _ _ _ q hq) (fun q90 _ h => ?_)
        refine AW_aload_n dL_law_669 rfl ?_
        refine AW_aload_n dL_law_670 rfl ?_
        refine AW_iload_n dL_law_671 rfl ?_
        refine AW_iconst (v := 1) dL_law_672 (by decide) ?_
        refine AW_iadd dL_law_673 ?_
        refine AW_sld hG dL_law_674 h (fun v91 _ h => ?_)
        refine AW_aload_n dL_law_675 rfl ?_
        refine AW_iload_n dL_law_676 rfl ?_
        refine AW_iconst (v := 2) dL_law_677 (by decide) ?_
        refine AW_iadd dL_law_678 ?_
        refine AW_sld hG dL_law_679 h (fun v92 _ h => ?_)
        refine AW_case h (fun hc h => ?_) (fun _ h => by cases h)
        refine AW_callVi (y := yX12_wrong) (cc := cX12_wrong) (n := 8) (d := 5) (mc := 0) (ms := 0) (np := 2) (ret := (some .int)) (As := [.int v91, .int v92]) (st := [.int q90.1]) (ci := 11) dL_law_680 gT_s rfl tM_L_84 tI_X12_wrong tSel_X12_X12_X12_wrong tIni_X12 tY_X12_wrong (by decide +kernel) ⟨by decide, by decide⟩ hc (Nat.le_of_ble_eq_true rfl) rfl h (fun q hq => c_X12_wrong N _ _ _ _ q hq) (fun q93 _ h => ?_)
        refine AW_icmp_eq (tgt := 984) dL_law_683 (by decide) h (fun _ h => ?_) (fun _ h => ?_)
        · exact (t_L_law_984 L xs hG N (f_L_law_18 L xs N n) ih _ _ _ _ _ _ _ h)
        · refine AW_iconst (v := 0) dL_law_686 (by decide) ?_
          refine AW_case h (fun hc h => ?_) (fun _ h => by cases h)
          exact AW_law1 dL_law_687 rfl hc h
      refine AW_case h (fun e33_16 h => ?_) (fun e33_16 h => ?_)
      · refine AW_tabIn (c := 16) (off := 655) (tgt := 688) dL_law_33 e33_16 (by decide) (by decide) (by decide) (by decide) ?_
        refine AW_aload_n dL_law_688 rfl ?_
        refine AW_aload_n dL_law_689 rfl ?_
        refine AW_iload_n dL_law_690 rfl ?_
        refine AW_iconst (v := 1) dL_law_691 (by decide) ?_
        refine AW_iadd dL_law_692 ?_
        refine AW_sld hG dL_law_693 h (fun v94 _ h => ?_)
        refine AW_case h (fun hc h => ?_) (fun _ h => by cases h)
        refine AW_callVi (y := yX11_soon) (cc := cX11_soon) (n := 2) (d := 6) (mc := 0) (ms := 0) (np := 1) (ret := (some .int)) (As := [.int v94]) (st := []) (ci := 10) dL_law_694 gT_s rfl tM_L_85 tI_X11_soon tSel_X11_X11_X11_soon tIni_X11 tY_X11_soon (by decide +kernel) ⟨by decide, by decide⟩ hc (Nat.le_of_ble_eq_true rfl) rfl h (fun q hq => c_X11_soon N _ _ _ q hq) (fun q95 _ h => ?_)
        refine AW_aload_n dL_law_697 rfl ?_
        refine AW_aload_n dL_law_698 rfl ?_
        refine AW_iload_n dL_law_699 rfl ?_
        refine AW_iconst (v := 1) dL_law_700 (by decide) ?_
        refine AW_iadd dL_law_701 ?_
        refine AW_sld hG dL_law_702 h (fun v96 _ h => ?_)
        refine AW_case h (fun hc h => ?_) (fun _ h => by cases h)
        refine AW_callVi (y := yX12_soon) (cc := cX12_soon) (n := 2) (d := 7) (mc := 0) (ms := 0) (np := 1) (ret := (some .int)) (As := [.int v96]) (st := [.int q95.1]) (ci := 11) dL_law_703 gT_s rfl tM_L_88 tI_X12_soon tSel_X12_X12_X12_soon tIni_X12 tY_X12_soon (by decide +kernel) ⟨by decide, by decide⟩ hc (Nat.le_of_ble_eq_true rfl) rfl h (fun q hq => c_X12_soon N _ _ _ q hq) (fun q97 _ h => ?_)
        refine AW_icmp_eq (tgt := 984) dL_law_706 (by decide) h (fun _ h => ?_) (fun _ h => ?_)
        · exact (t_L_law_984 L xs hG N (f_L_law_18 L xs N n) ih _ _ _ _ _ _ _ h)
        · refine AW_iconst (v := 0) dL_law_709 (by decide) ?_
          refine AW_case h (fun hc h => ?_) (fun _ h => by cases h)
          exact AW_law1 dL_law_710 rfl hc h
      refine AW_case h (fun e33_17 h => ?_) (fun e33_17 h => ?_)
      · refine AW_tabIn (c := 17) (off := 678) (tgt := 711) dL_law_33 e33_17 (by decide) (by decide) (by decide) (by decide) ?_
        refine AW_aload_n dL_law_711 rfl ?_
        refine AW_aload_n dL_law_712 rfl ?_
        refine AW_iload_n dL_law_713 rfl ?_
        refine AW_iconst (v := 1) dL_law_714 (by decide) ?_
        refine AW_iadd dL_law_715 ?_
        refine AW_sld hG dL_law_716 h (fun v98 _ h => ?_)
        refine AW_case h (fun hc h => ?_) (fun _ h => by cases h)
        refine AW_callVi (y := yX11_laws) (cc := cX11_laws) (n := 3) (d := 5) (mc := 0) (ms := 0) (np := 1) (ret := (some .int)) (As := [.int v98]) (st := []) (ci := 10) dL_law_717 gT_s rfl tM_L_89 tI_X11_laws tSel_X11_X11_X11_laws tIni_X11 tY_X11_laws (by decide +kernel) ⟨by decide, by decide⟩ hc (Nat.le_of_ble_eq_true rfl) rfl h (fun q hq => c_X11_laws N _ _ _ q hq) (fun q99 _ h => ?_)
        refine AW_aload_n dL_law_720 rfl ?_
        refine AW_aload_n dL_law_721 rfl ?_
        refine AW_iload_n dL_law_722 rfl ?_
        refine AW_iconst (v := 1) dL_law_723 (by decide) ?_
        refine AW_iadd dL_law_724 ?_
        refine AW_sld hG dL_law_725 h (fun v100 _ h => ?_)
        refine AW_case h (fun hc h => ?_) (fun _ h => by cases h)
        refine AW_callVi (y := yX12_laws) (cc := cX12_laws) (n := 5) (d := 5) (mc := 0) (ms := 0) (np := 1) (ret := (some .int)) (As := [.int v100]) (st := [.int q99.1]) (ci := 11) dL_law_726 gT_s rfl tM_L_92 tI_X12_laws tSel_X12_X12_X12_laws tIni_X12 tY_X12_laws (by decide +kernel) ⟨by decide, by decide⟩ hc (Nat.le_of_ble_eq_true rfl) rfl h (fun q hq => c_X12_laws N _ _ _ q hq) (fun q101 _ h => ?_)
        refine AW_icmp_eq (tgt := 984) dL_law_729 (by decide) h (fun _ h => ?_) (fun _ h => ?_)
        · exact (t_L_law_984 L xs hG N (f_L_law_18 L xs N n) ih _ _ _ _ _ _ _ h)
        · refine AW_iconst (v := 0) dL_law_732 (by decide) ?_
          refine AW_case h (fun hc h => ?_) (fun _ h => by cases h)
          exact AW_law1 dL_law_733 rfl hc h
      refine AW_case h (fun e33_18 h => ?_) (fun e33_18 h => ?_)
      · refine AW_tabIn (c := 18) (off := 701) (tgt := 734) dL_law_33 e33_18 (by decide) (by decide) (by decide) (by decide) ?_
        refine AW_aload_n dL_law_734 rfl ?_
        refine AW_aload_n dL_law_735 rfl ?_
        refine AW_iload_n dL_law_736 rfl ?_
        refine AW_iconst (v := 1) dL_law_737 (by decide) ?_
        refine AW_iadd dL_law_738 ?_
        refine AW_sld hG dL_law_739 h (fun v102 _ h => ?_)
        refine AW_case h (fun hc h => ?_) (fun _ h => by cases h)
        refine AW_callVi (y := yX11_error) (cc := cX11_error) (n := 2) (d := 5) (mc := 0) (ms := 0) (np := 1) (ret := (some .int)) (As := [.int v102]) (st := []) (ci := 10) dL_law_740 gT_s rfl tM_L_93 tI_X11_error tSel_X11_X11_X11_error tIni_X11 tY_X11_error (by decide +kernel) ⟨by decide, by decide⟩ hc (Nat.le_of_ble_eq_true rfl) rfl h (fun q hq => c_X11_error N _ _ _ q hq) (fun q103 _ h => ?_)
        refine AW_aload_n dL_law_743 rfl ?_
        refine AW_aload_n dL_law_744 rfl ?_
        refine AW_iload_n dL_law_745 rfl ?_
        refine AW_iconst (v := 1) dL_law_746 (by decide) ?_
        refine AW_iadd dL_law_747 ?_
        refine AW_sld hG dL_law_748 h (fun v104 _ h => ?_)
        refine AW_case h (fun hc h => ?_) (fun _ h => by cases h)
        refine AW_callVi (y := yX12_error) (cc := cX12_error) (n := 4) (d := 5) (mc := 0) (ms := 0) (np := 1) (ret := (some .int)) (As := [.int v104]) (st := [.int q103.1]) (ci := 11) dL_law_749 gT_s rfl tM_L_96 tI_X12_error tSel_X12_X12_X12_error tIni_X12 tY_X12_error (by decide +kernel) ⟨by decide, by decide⟩ hc (Nat.le_of_ble_eq_true rfl) rfl h (fun q hq => c_X12_error N _ _ _ q hq) (fun q105 _ h => ?_)
        refine AW_icmp_eq (tgt := 984) dL_law_752 (by decide) h (fun _ h => ?_) (fun _ h => ?_)
        · exact (t_L_law_984 L xs hG N (f_L_law_18 L xs N n) ih _ _ _ _ _ _ _ h)
        · refine AW_iconst (v := 0) dL_law_755 (by decide) ?_
          refine AW_case h (fun hc h => ?_) (fun _ h => by cases h)
          exact AW_law1 dL_law_756 rfl hc h
      refine AW_case h (fun e33_19 h => ?_) (fun e33_19 h => ?_)
      · refine AW_tabIn (c := 19) (off := 724) (tgt := 757) dL_law_33 e33_19 (by decide) (by decide) (by decide) (by decide) ?_
        refine AW_aload_n dL_law_757 rfl ?_
        refine AW_aload_n dL_law_758 rfl ?_
        refine AW_iload_n dL_law_759 rfl ?_
        refine AW_iconst (v := 1) dL_law_760 (by decide) ?_
        refine AW_iadd dL_law_761 ?_
        refine AW_sld hG dL_law_762 h (fun v106 _ h => ?_)
        refine AW_aload_n dL_law_763 rfl ?_
        refine AW_iload_n dL_law_764 rfl ?_
        refine AW_iconst (v := 2) dL_law_765 (by decide) ?_
        refine AW_iadd dL_law_766 ?_
        refine AW_sld hG dL_law_767 h (fun v107 _ h => ?_)
        refine AW_case h (fun hc h => ?_) (fun _ h => by cases h)
        refine AW_callVi (y := yX11_sold) (cc := cX11_sold) (n := 5) (d := 4) (mc := 0) (ms := 0) (np := 2) (ret := (some .int)) (As := [.int v106, .int v107]) (st := []) (ci := 10) dL_law_768 gT_s rfl tM_L_97 tI_X11_sold tSel_X11_X11_X11_sold tIni_X11 tY_X11_sold (by decide +kernel) ⟨by decide, by decide⟩ hc (Nat.le_of_ble_eq_true rfl) rfl h (fun q hq => c_X11_sold N _ _ _ _ q hq) (fun q108 _ h => ?_)
        refine AW_aload_n dL_law_771 rfl ?_
        refine AW_aload_n dL_law_772 rfl ?_
        refine AW_iload_n dL_law_773 rfl ?_
        refine AW_iconst (v := 1) dL_law_774 (by decide) ?_
        refine AW_iadd dL_law_775 ?_
        refine AW_sld hG dL_law_776 h (fun v109 _ h => ?_)
        refine AW_aload_n dL_law_777 rfl ?_
        refine AW_iload_n dL_law_778 rfl ?_
        refine AW_iconst (v := 2) dL_law_779 (by decide) ?_
        refine AW_iadd dL_law_780 ?_
        refine AW_sld hG dL_law_781 h (fun v110 _ h => ?_)
        refine AW_case h (fun hc h => ?_) (fun _ h => by cases h)
        refine AW_callVi (y := yX12_sold) (cc := cX12_sold) (n := 3) (d := 4) (mc := 0) (ms := 0) (np := 2) (ret := (some .int)) (As := [.int v109, .int v110]) (st := [.int q108.1]) (ci := 11) dL_law_782 gT_s rfl tM_L_100 tI_X12_sold tSel_X12_X12_X12_sold tIni_X12 tY_X12_sold (by decide +kernel) ⟨by decide, by decide⟩ hc (Nat.le_of_ble_eq_true rfl) rfl h (fun q hq => c_X12_sold N _ _ _ _ q hq) (fun q111 _ h => ?_)
        refine AW_icmp_eq (tgt := 984) dL_law_785 (by decide) h (fun _ h => ?_) (fun _ h => ?_)
        · exact (t_L_law_984 L xs hG N (f_L_law_18 L xs N n) ih _ _ _ _ _ _ _ h)
        · refine AW_iconst (v := 0) dL_law_788 (by decide) ?_
          refine AW_case h (fun hc h => ?_) (fun _ h => by cases h)
          exact AW_law1 dL_law_789 rfl hc h
      refine AW_case h (fun e33_20 h => ?_) (fun e33_20 h => ?_)
      · refine AW_tabIn (c := 20) (off := 757) (tgt := 790) dL_law_33 e33_20 (by decide) (by decide) (by decide) (by decide) ?_
        refine AW_aload_n dL_law_790 rfl ?_
        refine AW_aload_n dL_law_791 rfl ?_
        refine AW_iload_n dL_law_792 rfl ?_
        refine AW_iconst (v := 1) dL_law_793 (by decide) ?_
        refine AW_iadd dL_law_794 ?_
        refine AW_sld hG dL_law_795 h (fun v112 _ h => ?_)
        refine AW_case h (fun hc h => ?_) (fun _ h => by cases h)
        refine AW_callVi (y := yX11_image) (cc := cX11_image) (n := 2) (d := 2) (mc := 0) (ms := 0) (np := 1) (ret := (some .int)) (As := [.int v112]) (st := []) (ci := 10) dL_law_796 gT_s rfl tM_L_101 tI_X11_image tSel_X11_X11_X11_image tIni_X11 tY_X11_image (by decide +kernel) ⟨by decide, by decide⟩ hc (Nat.le_of_ble_eq_true rfl) rfl h (fun q hq => c_X11_image N _ _ _ q hq) (fun q113 _ h => ?_)
        refine AW_aload_n dL_law_799 rfl ?_
        refine AW_aload_n dL_law_800 rfl ?_
        refine AW_iload_n dL_law_801 rfl ?_
        refine AW_iconst (v := 1) dL_law_802 (by decide) ?_
        refine AW_iadd dL_law_803 ?_
        refine AW_sld hG dL_law_804 h (fun v114 _ h => ?_)
        refine AW_case h (fun hc h => ?_) (fun _ h => by cases h)
        refine AW_callVi (y := yX12_image) (cc := cX12_image) (n := 3) (d := 1) (mc := 0) (ms := 0) (np := 1) (ret := (some .int)) (As := [.int v114]) (st := [.int q113.1]) (ci := 11) dL_law_805 gT_s rfl tM_L_104 tI_X12_image tSel_X12_X12_X12_image tIni_X12 tY_X12_image (by decide +kernel) ⟨by decide, by decide⟩ hc (Nat.le_of_ble_eq_true rfl) rfl h (fun q hq => c_X12_image N _ _ _ q hq) (fun q115 _ h => ?_)
        refine AW_icmp_eq (tgt := 984) dL_law_808 (by decide) h (fun _ h => ?_) (fun _ h => ?_)
        · exact (t_L_law_984 L xs hG N (f_L_law_18 L xs N n) ih _ _ _ _ _ _ _ h)
        · refine AW_iconst (v := 0) dL_law_811 (by decide) ?_
          refine AW_case h (fun hc h => ?_) (fun _ h => by cases h)
          exact AW_law1 dL_law_812 rfl hc h
      refine AW_case h (fun e33_21 h => ?_) (fun e33_21 h => ?_)
      · refine AW_tabIn (c := 21) (off := 780) (tgt := 813) dL_law_33 e33_21 (by decide) (by decide) (by decide) (by decide) ?_
        refine AW_aload_n dL_law_813 rfl ?_
        refine AW_aload_n dL_law_814 rfl ?_
        refine AW_iload_n dL_law_815 rfl ?_
        refine AW_iconst (v := 1) dL_law_816 (by decide) ?_
        refine AW_iadd dL_law_817 ?_
        refine AW_sld hG dL_law_818 h (fun v116 _ h => ?_)
        refine AW_case h (fun hc h => ?_) (fun _ h => by cases h)
        refine AW_callVi (y := yX11_restore) (cc := cX11_restore) (n := 2) (d := 2) (mc := 0) (ms := 0) (np := 1) (ret := (some .int)) (As := [.int v116]) (st := []) (ci := 10) dL_law_819 gT_s rfl tM_L_105 tI_X11_restore tSel_X11_X11_X11_restore tIni_X11 tY_X11_restore (by decide +kernel) ⟨by decide, by decide⟩ hc (Nat.le_of_ble_eq_true rfl) rfl h (fun q hq => c_X11_restore N _ _ _ q hq) (fun q117 _ h => ?_)
        refine AW_aload_n dL_law_822 rfl ?_
        refine AW_aload_n dL_law_823 rfl ?_
        refine AW_iload_n dL_law_824 rfl ?_
        refine AW_iconst (v := 1) dL_law_825 (by decide) ?_
        refine AW_iadd dL_law_826 ?_
        refine AW_sld hG dL_law_827 h (fun v118 _ h => ?_)
        refine AW_case h (fun hc h => ?_) (fun _ h => by cases h)
        refine AW_callVi (y := yX12_restore) (cc := cX12_restore) (n := 3) (d := 1) (mc := 0) (ms := 0) (np := 1) (ret := (some .int)) (As := [.int v118]) (st := [.int q117.1]) (ci := 11) dL_law_828 gT_s rfl tM_L_108 tI_X12_restore tSel_X12_X12_X12_restore tIni_X12 tY_X12_restore (by decide +kernel) ⟨by decide, by decide⟩ hc (Nat.le_of_ble_eq_true rfl) rfl h (fun q hq => c_X12_restore N _ _ _ q hq) (fun q119 _ h => ?_)
        refine AW_icmp_eq (tgt := 984) dL_law_831 (by decide) h (fun _ h => ?_) (fun _ h => ?_)
        · exact (t_L_law_984 L xs hG N (f_L_law_18 L xs N n) ih _ _ _ _ _ _ _ h)
        · refine AW_iconst (v := 0) dL_law_834 (by decide) ?_
          refine AW_case h (fun hc h => ?_) (fun _ h => by cases h)
          exact AW_law1 dL_law_835 rfl hc h
      refine AW_case h (fun e33_22 h => ?_) (fun e33_22 h => ?_)
      · refine AW_tabIn (c := 22) (off := 803) (tgt := 836) dL_law_33 e33_22 (by decide) (by decide) (by decide) (by decide) ?_
        refine AW_aload_n dL_law_836 rfl ?_
        refine AW_aload_n dL_law_837 rfl ?_
        refine AW_iload_n dL_law_838 rfl ?_
        refine AW_iconst (v := 1) dL_law_839 (by decide) ?_
        refine AW_iadd dL_law_840 ?_
        refine AW_sld hG dL_law_841 h (fun v120 _ h => ?_)
        refine AW_case h (fun hc h => ?_) (fun _ h => by cases h)
        refine AW_callVi (y := yX11_kind) (cc := cX11_kind) (n := 3) (d := 1) (mc := 0) (ms := 0) (np := 1) (ret := (some .int)) (As := [.int v120]) (st := []) (ci := 10) dL_law_842 gT_s rfl tM_L_109 tI_X11_kind tSel_X11_X11_X11_kind tIni_X11 tY_X11_kind (by decide +kernel) ⟨by decide, by decide⟩ hc (Nat.le_of_ble_eq_true rfl) rfl h (fun q hq => c_X11_kind N _ _ _ q hq) (fun q121 _ h => ?_)
        refine AW_aload_n dL_law_845 rfl ?_
        refine AW_aload_n dL_law_846 rfl ?_
        refine AW_iload_n dL_law_847 rfl ?_
        refine AW_iconst (v := 1) dL_law_848 (by decide) ?_
        refine AW_iadd dL_law_849 ?_
        refine AW_sld hG dL_law_850 h (fun v122 _ h => ?_)
        refine AW_case h (fun hc h => ?_) (fun _ h => by cases h)
        refine AW_callVi (y := yX12_kind) (cc := cX12_kind) (n := 2) (d := 2) (mc := 0) (ms := 0) (np := 1) (ret := (some .int)) (As := [.int v122]) (st := [.int q121.1]) (ci := 11) dL_law_851 gT_s rfl tM_L_112 tI_X12_kind tSel_X12_X12_X12_kind tIni_X12 tY_X12_kind (by decide +kernel) ⟨by decide, by decide⟩ hc (Nat.le_of_ble_eq_true rfl) rfl h (fun q hq => c_X12_kind N _ _ _ q hq) (fun q123 _ h => ?_)
        refine AW_icmp_eq (tgt := 984) dL_law_854 (by decide) h (fun _ h => ?_) (fun _ h => ?_)
        · exact (t_L_law_984 L xs hG N (f_L_law_18 L xs N n) ih _ _ _ _ _ _ _ h)
        · refine AW_iconst (v := 0) dL_law_857 (by decide) ?_
          refine AW_case h (fun hc h => ?_) (fun _ h => by cases h)
          exact AW_law1 dL_law_858 rfl hc h
      refine AW_case h (fun e33_23 h => ?_) (fun e33_23 h => ?_)
      · refine AW_tabIn (c := 23) (off := 826) (tgt := 859) dL_law_33 e33_23 (by decide) (by decide) (by decide) (by decide) ?_
        refine AW_aload_n dL_law_859 rfl ?_
        refine AW_aload_n dL_law_860 rfl ?_
        refine AW_iload_n dL_law_861 rfl ?_
        refine AW_iconst (v := 1) dL_law_862 (by decide) ?_
        refine AW_iadd dL_law_863 ?_
        refine AW_sld hG dL_law_864 h (fun v124 _ h => ?_)
        refine AW_aload_n dL_law_865 rfl ?_
        refine AW_iload_n dL_law_866 rfl ?_
        refine AW_iconst (v := 2) dL_law_867 (by decide) ?_
        refine AW_iadd dL_law_868 ?_
        refine AW_sld hG dL_law_869 h (fun v125 _ h => ?_)
        refine AW_case h (fun hc h => ?_) (fun _ h => by cases h)
        refine AW_callVi (y := yX11_as) (cc := cX11_as) (n := 4) (d := 1) (mc := 0) (ms := 0) (np := 2) (ret := (some .int)) (As := [.int v124, .int v125]) (st := []) (ci := 10) dL_law_870 gT_s rfl tM_L_113 tI_X11_as tSel_X11_X11_X11_as tIni_X11 tY_X11_as (by decide +kernel) ⟨by decide, by decide⟩ hc (Nat.le_of_ble_eq_true rfl) rfl h (fun q hq => c_X11_as N _ _ _ _ q hq) (fun q126 _ h => ?_)
        refine AW_aload_n dL_law_873 rfl ?_
        refine AW_aload_n dL_law_874 rfl ?_
        refine AW_iload_n dL_law_875 rfl ?_
        refine AW_iconst (v := 1) dL_law_876 (by decide) ?_
        refine AW_iadd dL_law_877 ?_
        refine AW_sld hG dL_law_878 h (fun v127 _ h => ?_)
        refine AW_aload_n dL_law_879 rfl ?_
        refine AW_iload_n dL_law_880 rfl ?_
        refine AW_iconst (v := 2) dL_law_881 (by decide) ?_
        refine AW_iadd dL_law_882 ?_
        refine AW_sld hG dL_law_883 h (fun v128 _ h => ?_)
        refine AW_case h (fun hc h => ?_) (fun _ h => by cases h)
        refine AW_callVi (y := yX12_as) (cc := cX12_as) (n := 3) (d := 2) (mc := 0) (ms := 0) (np := 2) (ret := (some .int)) (As := [.int v127, .int v128]) (st := [.int q126.1]) (ci := 11) dL_law_884 gT_s rfl tM_L_116 tI_X12_as tSel_X12_X12_X12_as tIni_X12 tY_X12_as (by decide +kernel) ⟨by decide, by decide⟩ hc (Nat.le_of_ble_eq_true rfl) rfl h (fun q hq => c_X12_as N _ _ _ _ q hq) (fun q129 _ h => ?_)
        refine AW_icmp_eq (tgt := 984) dL_law_887 (by decide) h (fun _ h => ?_) (fun _ h => ?_)
        · exact (t_L_law_984 L xs hG N (f_L_law_18 L xs N n) ih _ _ _ _ _ _ _ h)
        · refine AW_iconst (v := 0) dL_law_890 (by decide) ?_
          refine AW_case h (fun hc h => ?_) (fun _ h => by cases h)
          exact AW_law1 dL_law_891 rfl hc h
      refine AW_case h (fun e33_24 h => ?_) (fun e33_24 h => ?_)
      · refine AW_tabIn (c := 24) (off := 859) (tgt := 892) dL_law_33 e33_24 (by decide) (by decide) (by decide) (by decide) ?_
        refine AW_aload_n dL_law_892 rfl ?_
        refine AW_aload_n dL_law_893 rfl ?_
        refine AW_iload_n dL_law_894 rfl ?_
        refine AW_iconst (v := 1) dL_law_895 (by decide) ?_
        refine AW_iadd dL_law_896 ?_
        refine AW_sld hG dL_law_897 h (fun v130 _ h => ?_)
        refine AW_aload_n dL_law_898 rfl ?_
        refine AW_iload_n dL_law_899 rfl ?_
        refine AW_iconst (v := 2) dL_law_900 (by decide) ?_
        refine AW_iadd dL_law_901 ?_
        refine AW_sld hG dL_law_902 h (fun v131 _ h => ?_)
        refine AW_case h (fun hc h => ?_) (fun _ h => by cases h)
        refine AW_callVi (y := yX11_ask) (cc := cX11_ask) (n := 4) (d := 6) (mc := 0) (ms := 0) (np := 2) (ret := (some .int)) (As := [.int v130, .int v131]) (st := []) (ci := 10) dL_law_903 gT_s rfl tM_L_117 tI_X11_ask tSel_X11_X11_X11_ask tIni_X11 tY_X11_ask (by decide +kernel) ⟨by decide, by decide⟩ hc (Nat.le_of_ble_eq_true rfl) rfl h (fun q hq => c_X11_ask N _ _ _ _ q hq) (fun q132 _ h => ?_)
        refine AW_aload_n dL_law_906 rfl ?_
        refine AW_aload_n dL_law_907 rfl ?_
        refine AW_iload_n dL_law_908 rfl ?_
        refine AW_iconst (v := 1) dL_law_909 (by decide) ?_
        refine AW_iadd dL_law_910 ?_
        refine AW_sld hG dL_law_911 h (fun v133 _ h => ?_)
        refine AW_aload_n dL_law_912 rfl ?_
        refine AW_iload_n dL_law_913 rfl ?_
        refine AW_iconst (v := 2) dL_law_914 (by decide) ?_
        refine AW_iadd dL_law_915 ?_
        refine AW_sld hG dL_law_916 h (fun v134 _ h => ?_)
        refine AW_case h (fun hc h => ?_) (fun _ h => by cases h)
        refine AW_callVi (y := yX12_ask) (cc := cX12_ask) (n := 3) (d := 5) (mc := 0) (ms := 0) (np := 2) (ret := (some .int)) (As := [.int v133, .int v134]) (st := [.int q132.1]) (ci := 11) dL_law_917 gT_s rfl tM_L_120 tI_X12_ask tSel_X12_X12_X12_ask tIni_X12 tY_X12_ask (by decide +kernel) ⟨by decide, by decide⟩ hc (Nat.le_of_ble_eq_true rfl) rfl h (fun q hq => c_X12_ask N _ _ _ _ q hq) (fun q135 _ h => ?_)
        refine AW_icmp_eq (tgt := 984) dL_law_920 (by decide) h (fun _ h => ?_) (fun _ h => ?_)
        · exact (t_L_law_984 L xs hG N (f_L_law_18 L xs N n) ih _ _ _ _ _ _ _ h)
        · refine AW_iconst (v := 0) dL_law_923 (by decide) ?_
          refine AW_case h (fun hc h => ?_) (fun _ h => by cases h)
          exact AW_law1 dL_law_924 rfl hc h
      refine AW_case h (fun e33_25 h => ?_) (fun e33_25 h => ?_)
      · refine AW_tabIn (c := 25) (off := 892) (tgt := 925) dL_law_33 e33_25 (by decide) (by decide) (by decide) (by decide) ?_
        refine AW_aload_n dL_law_925 rfl ?_
        refine AW_aload_n dL_law_926 rfl ?_
        refine AW_iload_n dL_law_927 rfl ?_
        refine AW_iconst (v := 1) dL_law_928 (by decide) ?_
        refine AW_iadd dL_law_929 ?_
        refine AW_sld hG dL_law_930 h (fun v136 _ h => ?_)
        refine AW_case h (fun hc h => ?_) (fun _ h => by cases h)
        refine AW_callVi (y := yX11_trace) (cc := cX11_trace) (n := 2) (d := 0) (mc := 0) (ms := 0) (np := 1) (ret := (some .int)) (As := [.int v136]) (st := []) (ci := 10) dL_law_931 gT_s rfl tM_L_121 tI_X11_trace tSel_X11_X11_X11_trace tIni_X11 tY_X11_trace (by decide +kernel) ⟨by decide, by decide⟩ hc (Nat.le_of_ble_eq_true rfl) rfl h (fun q hq => c_X11_trace N _ _ _ q hq) (fun q137 _ h => ?_)
        refine AW_aload_n dL_law_934 rfl ?_
        refine AW_aload_n dL_law_935 rfl ?_
        refine AW_iload_n dL_law_936 rfl ?_
        refine AW_iconst (v := 1) dL_law_937 (by decide) ?_
        refine AW_iadd dL_law_938 ?_
        refine AW_sld hG dL_law_939 h (fun v138 _ h => ?_)
        refine AW_case h (fun hc h => ?_) (fun _ h => by cases h)
        refine AW_callVi (y := yX12_trace) (cc := cX12_trace) (n := 2) (d := 1) (mc := 0) (ms := 0) (np := 1) (ret := (some .int)) (As := [.int v138]) (st := [.int q137.1]) (ci := 11) dL_law_940 gT_s rfl tM_L_124 tI_X12_trace tSel_X12_X12_X12_trace tIni_X12 tY_X12_trace (by decide +kernel) ⟨by decide, by decide⟩ hc (Nat.le_of_ble_eq_true rfl) rfl h (fun q hq => c_X12_trace N _ _ _ q hq) (fun q139 _ h => ?_)
        refine AW_icmp_eq (tgt := 984) dL_law_943 (by decide) h (fun _ h => ?_) (fun _ h => ?_)
        · exact (t_L_law_984 L xs hG N (f_L_law_18 L xs N n) ih _ _ _ _ _ _ _ h)
        · refine AW_iconst (v := 0) dL_law_946 (by decide) ?_
          refine AW_case h (fun hc h => ?_) (fun _ h => by cases h)
          exact AW_law1 dL_law_947 rfl hc h
      refine AW_case h (fun e33_26 h => ?_) (fun e33_26 h => ?_)
      · refine AW_tabIn (c := 26) (off := 915) (tgt := 948) dL_law_33 e33_26 (by decide) (by decide) (by decide) (by decide) ?_
        refine AW_aload_n dL_law_948 rfl ?_
        refine AW_aload_n dL_law_949 rfl ?_
        refine AW_iload_n dL_law_950 rfl ?_
        refine AW_iconst (v := 1) dL_law_951 (by decide) ?_
        refine AW_iadd dL_law_952 ?_
        refine AW_sld hG dL_law_953 h (fun v140 _ h => ?_)
        refine AW_case h (fun hc h => ?_) (fun _ h => by cases h)
        refine AW_callVi (y := yX11_count) (cc := cX11_count) (n := 2) (d := 1) (mc := 0) (ms := 0) (np := 1) (ret := (some .int)) (As := [.int v140]) (st := []) (ci := 10) dL_law_954 gT_s rfl tM_L_125 tI_X11_count tSel_X11_X11_X11_count tIni_X11 tY_X11_count (by decide +kernel) ⟨by decide, by decide⟩ hc (Nat.le_of_ble_eq_true rfl) rfl h (fun q hq => c_X11_count N _ _ _ q hq) (fun q141 _ h => ?_)
        refine AW_aload_n dL_law_957 rfl ?_
        refine AW_aload_n dL_law_958 rfl ?_
        refine AW_iload_n dL_law_959 rfl ?_
        refine AW_iconst (v := 1) dL_law_960 (by decide) ?_
        refine AW_iadd dL_law_961 ?_
        refine AW_sld hG dL_law_962 h (fun v142 _ h => ?_)
        refine AW_case h (fun hc h => ?_) (fun _ h => by cases h)
        refine AW_callVi (y := yX12_count) (cc := cX12_count) (n := 4) (d := 0) (mc := 0) (ms := 0) (np := 1) (ret := (some .int)) (As := [.int v142]) (st := [.int q141.1]) (ci := 11) dL_law_963 gT_s rfl tM_L_128 tI_X12_count tSel_X12_X12_X12_count tIni_X12 tY_X12_count (by decide +kernel) ⟨by decide, by decide⟩ hc (Nat.le_of_ble_eq_true rfl) rfl h (fun q hq => c_X12_count N _ _ _ q hq) (fun q143 _ h => ?_)
        refine AW_icmp_eq (tgt := 984) dL_law_966 (by decide) h (fun _ h => ?_) (fun _ h => ?_)
        · exact (t_L_law_984 L xs hG N (f_L_law_18 L xs N n) ih _ _ _ _ _ _ _ h)
        · refine AW_iconst (v := 0) dL_law_969 (by decide) ?_
          refine AW_case h (fun hc h => ?_) (fun _ h => by cases h)
          exact AW_law1 dL_law_970 rfl hc h
      refine AW_case h (fun e33_27 h => ?_) (fun e33_27 h => ?_)
      · refine AW_tabIn (c := 27) (off := 938) (tgt := 971) dL_law_33 e33_27 (by decide) (by decide) (by decide) (by decide) ?_
        refine AW_aload_n dL_law_971 rfl ?_
        refine AW_case h (fun hc h => ?_) (fun _ h => by cases h)
        refine AW_callVi (y := yX11_status) (cc := cX11_status) (n := 1) (d := 0) (mc := 0) (ms := 0) (np := 0) (ret := (some .int)) (As := []) (st := []) (ci := 10) dL_law_972 gT_s rfl tM_L_129 tI_X11_status tSel_X11_X11_X11_status tIni_X11 tY_X11_status (by decide +kernel) ⟨by decide, by decide⟩ hc (Nat.le_of_ble_eq_true rfl) rfl h (fun q hq => c_X11_status N _ _ q hq) (fun q144 _ h => ?_)
        refine AW_aload_n dL_law_975 rfl ?_
        refine AW_case h (fun hc h => ?_) (fun _ h => by cases h)
        refine AW_callVi (y := yX12_status) (cc := cX12_status) (n := 1) (d := 0) (mc := 0) (ms := 0) (np := 0) (ret := (some .int)) (As := []) (st := [.int q144.1]) (ci := 11) dL_law_976 gT_s rfl tM_L_132 tI_X12_status tSel_X12_X12_X12_status tIni_X12 tY_X12_status (by decide +kernel) ⟨by decide, by decide⟩ hc (Nat.le_of_ble_eq_true rfl) rfl h (fun q hq => c_X12_status N _ _ q hq) (fun q145 _ h => ?_)
        refine AW_icmp_eq (tgt := 984) dL_law_979 (by decide) h (fun _ h => ?_) (fun _ h => ?_)
        · exact (t_L_law_984 L xs hG N (f_L_law_18 L xs N n) ih _ _ _ _ _ _ _ h)
        · refine AW_iconst (v := 0) dL_law_982 (by decide) ?_
          refine AW_case h (fun hc h => ?_) (fun _ h => by cases h)
          exact AW_law1 dL_law_983 rfl hc h
      refine AW_tabOut (tgt := 984) dL_law_33 (by have a0 := i32_ne e33_0; have b0 : (0 : Int32).toInt = 0 := (by decide); have a1 := i32_ne e33_1; have b1 : (1 : Int32).toInt = 1 := (by decide); have a2 := i32_ne e33_2; have b2 : (2 : Int32).toInt = 2 := (by decide); have a3 := i32_ne e33_3; have b3 : (3 : Int32).toInt = 3 := (by decide); have a4 := i32_ne e33_4; have b4 : (4 : Int32).toInt = 4 := (by decide); have a5 := i32_ne e33_5; have b5 : (5 : Int32).toInt = 5 := (by decide); have a6 := i32_ne e33_6; have b6 : (6 : Int32).toInt = 6 := (by decide); have a7 := i32_ne e33_7; have b7 : (7 : Int32).toInt = 7 := (by decide); have a8 := i32_ne e33_8; have b8 : (8 : Int32).toInt = 8 := (by decide); have a9 := i32_ne e33_9; have b9 : (9 : Int32).toInt = 9 := (by decide); have a10 := i32_ne e33_10; have b10 : (10 : Int32).toInt = 10 := (by decide); have a11 := i32_ne e33_11; have b11 : (11 : Int32).toInt = 11 := (by decide); have a12 := i32_ne e33_12; have b12 : (12 : Int32).toInt = 12 := (by decide); have a13 := i32_ne e33_13; have b13 : (13 : Int32).toInt = 13 := (by decide); have a14 := i32_ne e33_14; have b14 : (14 : Int32).toInt = 14 := (by decide); have a15 := i32_ne e33_15; have b15 : (15 : Int32).toInt = 15 := (by decide); have a16 := i32_ne e33_16; have b16 : (16 : Int32).toInt = 16 := (by decide); have a17 := i32_ne e33_17; have b17 : (17 : Int32).toInt = 17 := (by decide); have a18 := i32_ne e33_18; have b18 : (18 : Int32).toInt = 18 := (by decide); have a19 := i32_ne e33_19; have b19 : (19 : Int32).toInt = 19 := (by decide); have a20 := i32_ne e33_20; have b20 : (20 : Int32).toInt = 20 := (by decide); have a21 := i32_ne e33_21; have b21 : (21 : Int32).toInt = 21 := (by decide); have a22 := i32_ne e33_22; have b22 : (22 : Int32).toInt = 22 := (by decide); have a23 := i32_ne e33_23; have b23 : (23 : Int32).toInt = 23 := (by decide); have a24 := i32_ne e33_24; have b24 : (24 : Int32).toInt = 24 := (by decide); have a25 := i32_ne e33_25; have b25 : (25 : Int32).toInt = 25 := (by decide); have a26 := i32_ne e33_26; have b26 : (26 : Int32).toInt = 26 := (by decide); have a27 := i32_ne e33_27; have b27 : (27 : Int32).toInt = 27 := (by decide); omega) (by decide) ?_
      exact (t_L_law_984 L xs hG N (f_L_law_18 L xs N n) ih _ _ _ _ _ _ _ h)
def f_L_law_0 (L : Nat) (xs : Nat → Int32) (N : Nat) (A : hP) (cs ss : Nat) : Option (Int32 × hP) := if cs + 1 ≤ 600000 ∧ ss + 9 ≤ 7302250 then (if A.length < 1000000 then (if cs + 1 + 48 ≤ 600000 ∧ ss + 9 + 8472 ≤ 7302250 then ((oOb (A ++ [.inr (10, [.null, .null, .null, .null, .null, .null, .null, .int 0, .int 0])]) (some A.length)).bind fun _ => (f_X11_init N (A ++ [.inr (10, [.null, .null, .null, .null, .null, .null, .null, .int 0, .int 0])]) (some A.length)).bind fun q146 => if cs + 1 + 48 + 1 ≤ 600000 ∧ ss + 9 + 8472 + 31 ≤ 7302250 then (if q146.2.length < 1000000 then (if cs + 1 + 48 + 1 + 12 ≤ 600000 ∧ ss + 9 + 8472 + 31 + 5036 ≤ 7302250 then ((oOb (q146.2 ++ [.inr (11, [.int 0, .int 0, .null, .null, .null, .null, .null, .null, .int 0, .int 0, .int 0, .int 0, .int 0, .int 0, .int 0, .int 0, .int 0, .null, .int 0, .int 0, .int 0, .null, .int 0, .null, .int 0, .int 0, .int 0, .null, .null, .null, .int 0])]) (some q146.2.length)).bind fun _ => (f_X12_init N (q146.2 ++ [.inr (11, [.int 0, .int 0, .null, .null, .null, .null, .null, .null, .int 0, .int 0, .int 0, .int 0, .int 0, .int 0, .int 0, .int 0, .int 0, .null, .int 0, .int 0, .int 0, .null, .int 0, .null, .int 0, .int 0, .int 0, .null, .null, .null, .int 0])]) (some q146.2.length)).bind fun q147 => f_L_law_18 L xs N N q147.2 (cs + 1 + 48 + 1 + 12) (ss + 9 + 8472 + 31 + 5036) (some A.length) (some q146.2.length) (0 : Int32)) else none) else none) else none) else none) else none) else none
set_option maxRecDepth 20000 in
set_option maxHeartbeats 4000000 in
theorem t_L_law_0 {l : Launch} {G : gS} (L : Nat) (xs : Nat → Int32) (hG : g_Sc G L xs) (N : Nat) (A : hP) (cs ss : Nat) (res : Int32 × hP) (h : f_L_law_0 L xs N A cs ss  = some res) : AW l mL_law room_1 G (g_Ql G) A cs ss 0 [some (va_rf (some 1000300)), none, none, none] [] := by
  unfold f_L_law_0 at h
  refine AW_case h (fun hc h => ?_) (fun _ h => by cases h)
  refine AW_new (ci := 10) (N := 9) (C := RX11) (T := TX11) (ty0 := tyX11) (fs := [.null, .null, .null, .null, .null, .null, .null, .int 0, .int 0]) dL_law_0 rfl (gT_u tU_X11) tyX11_ok (List.mem_cons_of_mem _ tC_L_7) (List.mem_cons_of_mem _ tIns_X11) (List.mem_cons_of_mem _ tIni_X11) (by decide) (fun _ => rfl) hc h (fun h => ?_)
  refine AW_dup dL_law_3 (g_cat_rf _) ?_
  refine AW_case h (fun hc h => ?_) (fun _ h => by cases h)
  refine AW_callIu (y := yX11_init) (cc := cX11_init) (n := 2) (d := 2) (mc := 48) (ms := 8472) (np := 0) (As := []) (st := [va_rf (some A.length)]) dL_law_4 gT_s tM_L_9 tI_X11_init tIni_X11 tY_X11_init rfl (by decide +kernel) ⟨by decide, by decide⟩ hc (Nat.le_of_ble_eq_true rfl) rfl h (fun q hq => c_X11_init N _ _ q hq) (fun q146 _ h => ?_)
  refine AW_astore_n (ls' := [some (va_rf (some 1000300)), some (va_rf (some A.length)), none, none]) dL_law_7 (c1_r rfl) (by decide) rfl ?_
  refine AW_case h (fun hc h => ?_) (fun _ h => by cases h)
  refine AW_new (ci := 11) (N := 31) (C := RX12) (T := TX12) (ty0 := tyX12) (fs := [.int 0, .int 0, .null, .null, .null, .null, .null, .null, .int 0, .int 0, .int 0, .int 0, .int 0, .int 0, .int 0, .int 0, .int 0, .null, .int 0, .int 0, .int 0, .null, .int 0, .null, .int 0, .int 0, .int 0, .null, .null, .null, .int 0]) dL_law_8 rfl (gT_u tU_X12) tyX12_ok (List.mem_cons_of_mem _ tC_L_10) (List.mem_cons_of_mem _ tIns_X12) (List.mem_cons_of_mem _ tIni_X12) (by decide) (fun _ => rfl) hc h (fun h => ?_)
  refine AW_dup dL_law_11 (g_cat_rf _) ?_
  refine AW_case h (fun hc h => ?_) (fun _ h => by cases h)
  refine AW_callIu (y := yX12_init) (cc := cX12_init) (n := 1) (d := 1) (mc := 12) (ms := 5036) (np := 0) (As := []) (st := [va_rf (some q146.2.length)]) dL_law_12 gT_s tM_L_12 tI_X12_init tIni_X12 tY_X12_init rfl (by decide +kernel) ⟨by decide, by decide⟩ hc (Nat.le_of_ble_eq_true rfl) rfl h (fun q hq => c_X12_init N _ _ q hq) (fun q147 _ h => ?_)
  refine AW_astore_n (ls' := [some (va_rf (some 1000300)), some (va_rf (some A.length)), some (va_rf (some q146.2.length)), none]) dL_law_15 (c1_r rfl) (by decide) rfl ?_
  refine AW_iconst (v := 0) dL_law_16 (by decide) ?_
  refine AW_istore_n (ls' := [some (va_rf (some 1000300)), some (va_rf (some A.length)), some (va_rf (some q146.2.length)), some (.int (0 : Int32))]) dL_law_17 (c1_r rfl) (by decide) rfl ?_
  exact (t_L_law_18 L xs hG N N _ _ _ _ _ _ _ h)
