abbrev mX11_isRow : gM := gMk yX11_isRow cX11_isRow 1 (some .boolean)
def f_X11_isRow_15 (N : Nat) (A : hP) (s0 : Int32) : Option (Int32 × hP) := if s0 = 0 ∨ s0 = 1 then some (s0, A) else none
set_option maxRecDepth 20000 in
set_option maxHeartbeats 4000000 in
theorem t_X11_isRow_15 {l : Launch} {G : gS} (N : Nat) (A : hP) (s0 : Int32) (res : Int32 × hP) (h : f_X11_isRow_15 N A s0 = some res) : AW l mX11_isRow (g_rm 0 0 0) G (g_Qf G (gi res) 0 0) A 0 0 15 [none] [.int s0] := by
  unfold f_X11_isRow_15 at h
  exact AW_zret dX11_isRow_15 rfl ⟨Nat.zero_le _, Nat.zero_le _⟩ h
def f_X11_isRow_14 (N : Nat) (A : hP) : Option (Int32 × hP) := f_X11_isRow_15 N A (0 : Int32)
set_option maxRecDepth 20000 in
set_option maxHeartbeats 4000000 in
theorem t_X11_isRow_14 {l : Launch} {G : gS} (N : Nat) (A : hP) (res : Int32 × hP) (h : f_X11_isRow_14 N A  = some res) : AW l mX11_isRow (g_rm 0 0 0) G (g_Qf G (gi res) 0 0) A 0 0 14 [none] [] := by
  unfold f_X11_isRow_14 at h
  refine AW_iconst (v := 0) dX11_isRow_14 (by decide) ?_
  exact (t_X11_isRow_15 N _ _ _ h)
def f_X11_isRow_0 (N : Nat) (A : hP) (x0 : Int32) : Option (Int32 × hP) := if x0 < (0) then (f_X11_isRow_14 N A) else (if (8 : Int32) ≤ x0 then (f_X11_isRow_14 N A) else (f_X11_isRow_15 N A (1 : Int32)))
set_option maxRecDepth 20000 in
set_option maxHeartbeats 4000000 in
theorem t_X11_isRow_0 {l : Launch} {G : gS} (N : Nat) (A : hP) (x0 : Int32) (res : Int32 × hP) (h : f_X11_isRow_0 N A x0 = some res) : AW l mX11_isRow (g_rm 0 0 0) G (g_Qf G (gi res) 0 0) A 0 0 0 [some (.int x0)] [] := by
  unfold f_X11_isRow_0 at h
  refine AW_iload_n dX11_isRow_0 rfl ?_
  refine AW_if_lt (tgt := 14) dX11_isRow_1 (by decide) h (fun _ h => ?_) (fun _ h => ?_)
  · exact AW_fewer (fw_d fw_n) (t_X11_isRow_14 N _ _ h)
  · refine AW_iload_n dX11_isRow_4 rfl ?_
    refine AW_bipush (v := 8) dX11_isRow_5 (by decide) ?_
    refine AW_icmp_ge (tgt := 14) dX11_isRow_7 (by decide) h (fun _ h => ?_) (fun _ h => ?_)
    · exact AW_fewer (fw_d fw_n) (t_X11_isRow_14 N _ _ h)
    · refine AW_iconst (v := 1) dX11_isRow_10 (by decide) ?_
      refine AW_goto (tgt := 15) dX11_isRow_11 (by decide) ?_
      exact AW_fewer (fw_d fw_n) (t_X11_isRow_15 N _ _ _ h)
def f_X11_isRow (N : Nat) (A : hP) (x0 : Int32) : Option (Int32 × hP) := f_X11_isRow_0 N A x0
set_option maxRecDepth 20000 in
theorem c_X11_isRow {l : Launch} (N : Nat) (A : hP) (x0 : Int32) (res : Int32 × hP) (h : f_X11_isRow N A x0 = some res) : Ct l mX11_isRow 0 0 0 A [.int x0] (gi res) := Ct.of (lv := [(0, .int x0)]) (ls := [some (.int x0)]) (by decide) (by simp [lv_args, g_cat_rf, cat_i, cat_l]) rfl (by simp [g_cat_rf, cat_i, cat_l]) (fun G => (t_X11_isRow_0 N A x0 res h))
abbrev mX11_found : gM := gMk yX11_found cX11_found 2 (some .int)
def f_X11_found_0 (N : Nat) (A : hP) (x0 : Option Nat) (x1 : Int32) : Option (Int32 × hP) := (oP A x0 10 8 (.int x1)).bind fun A1 => some ((-1000010 : Int32) - x1, A1)
set_option maxRecDepth 20000 in
set_option maxHeartbeats 4000000 in
theorem t_X11_found_0 {l : Launch} {G : gS} (N : Nat) (A : hP) (x0 : Option Nat) (x1 : Int32) (res : Int32 × hP) (h : f_X11_found_0 N A x0 x1 = some res) : AW l mX11_found (g_rm 0 0 0) G (g_Qf G (gi res) 0 0) A 0 0 0 [some (va_rf x0), some (.int x1)] [] := by
  unfold f_X11_found_0 at h
  refine AW_aload_n dX11_found_0 rfl ?_
  refine AW_iload_n dX11_found_1 rfl ?_
  refine AW_put (ci := 10) (k0 := 8) (C := RX11) (T := TX11) (N := 9) (ty0 := tyX11) dX11_found_2 rfl (gT_u tU_X11) tyX11_ok nmX11 (by decide) (List.mem_cons_of_mem _ tF_X11_261) (Or.inl rfl) rfl rfl h (fun A1 _ h => ?_)
  refine AW_ldcw (v := -1000010) dX11_found_5 (List.mem_cons_of_mem _ tK_X11_264) ?_
  refine AW_iload_n dX11_found_8 rfl ?_
  refine AW_isub dX11_found_9 ?_
  exact AW_iret dX11_found_10 rfl ⟨Nat.zero_le _, Nat.zero_le _⟩ h
def f_X11_found (N : Nat) (A : hP) (x0 : Option Nat) (x1 : Int32) : Option (Int32 × hP) := f_X11_found_0 N A x0 x1
set_option maxRecDepth 20000 in
theorem c_X11_found {l : Launch} (N : Nat) (A : hP) (x0 : Option Nat) (x1 : Int32) (res : Int32 × hP) (h : f_X11_found N A x0 x1 = some res) : Ct l mX11_found 0 0 0 A [va_rf x0, .int x1] (gi res) := Ct.of (lv := [(0, va_rf x0), (1, .int x1)]) (ls := [some (va_rf x0), some (.int x1)]) (by decide) (by simp [lv_args, g_cat_rf, cat_i, cat_l]) rfl (by simp [g_cat_rf, cat_i, cat_l]) (fun G => (t_X11_found_0 N A x0 x1 res h))
abbrev mX11_passed : gM := gMk yX11_passed cX11_passed 2 (some .int)
def f_X11_passed_0 (N : Nat) (A : hP) (x0 : Option Nat) (x1 : Int32) : Option (Int32 × hP) := (oP A x0 10 8 (.int (0 : Int32))).bind fun A1 => some (x1, A1)
set_option maxRecDepth 20000 in
set_option maxHeartbeats 4000000 in
theorem t_X11_passed_0 {l : Launch} {G : gS} (N : Nat) (A : hP) (x0 : Option Nat) (x1 : Int32) (res : Int32 × hP) (h : f_X11_passed_0 N A x0 x1 = some res) : AW l mX11_passed (g_rm 0 0 0) G (g_Qf G (gi res) 0 0) A 0 0 0 [some (va_rf x0), some (.int x1)] [] := by
  unfold f_X11_passed_0 at h
  refine AW_aload_n dX11_passed_0 rfl ?_
  refine AW_iconst (v := 0) dX11_passed_1 (by decide) ?_
  refine AW_put (ci := 10) (k0 := 8) (C := RX11) (T := TX11) (N := 9) (ty0 := tyX11) dX11_passed_2 rfl (gT_u tU_X11) tyX11_ok nmX11 (by decide) (List.mem_cons_of_mem _ tF_X11_261) (Or.inl rfl) rfl rfl h (fun A1 _ h => ?_)
  refine AW_iload_n dX11_passed_5 rfl ?_
  exact AW_iret dX11_passed_6 rfl ⟨Nat.zero_le _, Nat.zero_le _⟩ h
def f_X11_passed (N : Nat) (A : hP) (x0 : Option Nat) (x1 : Int32) : Option (Int32 × hP) := f_X11_passed_0 N A x0 x1
set_option maxRecDepth 20000 in
theorem c_X11_passed {l : Launch} (N : Nat) (A : hP) (x0 : Option Nat) (x1 : Int32) (res : Int32 × hP) (h : f_X11_passed N A x0 x1 = some res) : Ct l mX11_passed 0 0 0 A [va_rf x0, .int x1] (gi res) := Ct.of (lv := [(0, va_rf x0), (1, .int x1)]) (ls := [some (va_rf x0), some (.int x1)]) (by decide) (by simp [lv_args, g_cat_rf, cat_i, cat_l]) rfl (by simp [g_cat_rf, cat_i, cat_l]) (fun G => (t_X11_passed_0 N A x0 x1 res h))
abbrev mX11_row : gM := gMk yX11_row cX11_row 4 (some .int)
def f_X11_row_22 (N : Nat) (A : hP) : Option (Int32 × hP) := some ((-1000001 : Int32), A)
set_option maxRecDepth 20000 in
set_option maxHeartbeats 4000000 in
theorem t_X11_row_22 {l : Launch} {G : gS} (N : Nat) (A : hP) (res : Int32 × hP) (h : f_X11_row_22 N A  = some res) : AW l mX11_row (g_rm 1 0 0) G (g_Qf G (gi res) 0 0) A 0 0 22 [none, none, none, none] [] := by
  unfold f_X11_row_22 at h
  refine AW_ldc (v := -1000001) dX11_row_22 (List.mem_cons_of_mem _ tK_X11_55) ?_
  exact AW_iret dX11_row_24 rfl ⟨Nat.zero_le _, Nat.zero_le _⟩ h
def f_X11_row_0 (N : Nat) (A : hP) (x0 : Option Nat) (x1 : Int32) (x2 : Int32) (x3 : Int32) : Option (Int32 × hP) := (f_X11_isRow N A x1).bind fun q1 => if q1.1 = (0) then (f_X11_row_22 N q1.2) else (if x2 < (0) then (f_X11_row_22 N q1.2) else (if (2 : Int32) < x2 then (f_X11_row_22 N q1.2) else (if x3 ≤ (40 : Int32) then (if (0) ≤ x3 then ((oR q1.2 x0 10 0).bind fun v2 => (oQ q1.2 v2 3 x1).bind fun v3 => (oCk q1.2 v3 3).bind fun _ => (f_X3_begin N q1.2 v3 x2 x3).bind fun q4 => (oCk q4.2 x0 10).bind fun _ => (f_X11_passed N q4.2 x0 x3).bind fun q5 => some (q5.1, q5.2)) else ((oCk q1.2 x0 10).bind fun _ => (f_X11_found N q1.2 x0 (4 : Int32)).bind fun q6 => some (q6.1, q6.2))) else (f_X11_row_22 N q1.2))))
set_option maxRecDepth 20000 in
set_option maxHeartbeats 4000000 in
theorem t_X11_row_0 {l : Launch} {G : gS} (N : Nat) (A : hP) (x0 : Option Nat) (x1 : Int32) (x2 : Int32) (x3 : Int32) (res : Int32 × hP) (h : f_X11_row_0 N A x0 x1 x2 x3 = some res) : AW l mX11_row (g_rm 1 0 0) G (g_Qf G (gi res) 0 0) A 0 0 0 [some (va_rf x0), some (.int x1), some (.int x2), some (.int x3)] [] := by
  unfold f_X11_row_0 at h
  refine AW_iload_n dX11_row_0 rfl ?_
  refine AW_callSi (y := yX11_isRow) (cc := cX11_isRow) (n := 1) (d := 0) (mc := 0) (ms := 0) (np := 1) (ret := (some .boolean)) (As := [.int x1]) (st := []) dX11_row_1 gT_s tM_X11_51 tS_X11_isRow tIni_X11 tY_X11_isRow (by decide +kernel) ⟨by decide, by decide⟩ ⟨by decide, by decide⟩ (Nat.le_of_ble_eq_true rfl) rfl h (fun q hq => c_X11_isRow N _ _ q hq) (fun q1 _ h => ?_)
  refine AW_if_eq (tgt := 22) dX11_row_4 (by decide) h (fun _ h => ?_) (fun _ h => ?_)
  · exact AW_fewer (fw_d (fw_d (fw_d (fw_d fw_n)))) (t_X11_row_22 N _ _ h)
  · refine AW_iload_n dX11_row_7 rfl ?_
    refine AW_if_lt (tgt := 22) dX11_row_8 (by decide) h (fun _ h => ?_) (fun _ h => ?_)
    · exact AW_fewer (fw_d (fw_d (fw_d (fw_d fw_n)))) (t_X11_row_22 N _ _ h)
    · refine AW_iload_n dX11_row_11 rfl ?_
      refine AW_iconst (v := 2) dX11_row_12 (by decide) ?_
      refine AW_icmp_gt (tgt := 22) dX11_row_13 (by decide) h (fun _ h => ?_) (fun _ h => ?_)
      · exact AW_fewer (fw_d (fw_d (fw_d (fw_d fw_n)))) (t_X11_row_22 N _ _ h)
      · refine AW_iload_n dX11_row_16 rfl ?_
        refine AW_bipush (v := 40) dX11_row_17 (by decide) ?_
        refine AW_icmp_le (tgt := 25) dX11_row_19 (by decide) h (fun _ h => ?_) (fun _ h => ?_)
        · refine AW_iload_n dX11_row_25 rfl ?_
          refine AW_if_ge (tgt := 35) dX11_row_26 (by decide) h (fun _ h => ?_) (fun _ h => ?_)
          · refine AW_aload_n dX11_row_35 rfl ?_
            refine AW_getR (ci := 10) (k0 := 0) (C := RX11) (T := TX11) (N := 9) dX11_row_36 rfl (gT_u tU_X11) (by decide) (List.mem_cons_of_mem _ tF_X11_11) h (fun v2 _ h => ?_)
            refine AW_iload_n dX11_row_39 rfl ?_
            refine AW_aald (fun _ => rfl) dX11_row_40 h (fun v3 _ h => ?_)
            refine AW_iload_n dX11_row_41 rfl ?_
            refine AW_iload_n dX11_row_42 rfl ?_
            refine AW_callVu (y := yX3_begin) (cc := cX3_begin) (n := 4) (d := 0) (mc := 0) (ms := 0) (np := 2) (ret := none) (As := [.int x2, .int x3]) (st := []) (ci := 3) dX11_row_43 gT_s rfl tM_X11_60 tI_X3_begin tSel_X3_X3_X3_begin tIni_X3 tY_X3_begin (by decide +kernel) ⟨by decide, by decide⟩ ⟨by decide, by decide⟩ (Nat.le_of_ble_eq_true rfl) rfl h (fun q hq => c_X3_begin N _ _ _ _ q hq) (fun q4 _ h => ?_)
            refine AW_aload_n dX11_row_46 rfl ?_
            refine AW_iload_n dX11_row_47 rfl ?_
            refine AW_callVi (y := yX11_passed) (cc := cX11_passed) (n := 2) (d := 0) (mc := 0) (ms := 0) (np := 1) (ret := (some .int)) (As := [.int x3]) (st := []) (ci := 10) dX11_row_48 gT_s rfl tM_X11_64 tI_X11_passed selp_X11_passed tIni_X11 tY_X11_passed (by decide +kernel) ⟨by decide, by decide⟩ ⟨by decide, by decide⟩ (Nat.le_of_ble_eq_true rfl) rfl h (fun q hq => c_X11_passed N _ _ _ q hq) (fun q5 _ h => ?_)
            exact AW_iret dX11_row_51 rfl ⟨Nat.zero_le _, Nat.zero_le _⟩ h
          · refine AW_aload_n dX11_row_29 rfl ?_
            refine AW_iconst (v := 4) dX11_row_30 (by decide) ?_
            refine AW_callVi (y := yX11_found) (cc := cX11_found) (n := 2) (d := 0) (mc := 0) (ms := 0) (np := 1) (ret := (some .int)) (As := [.int (4 : Int32)]) (st := []) (ci := 10) dX11_row_31 gT_s rfl tM_X11_56 tI_X11_found selp_X11_found tIni_X11 tY_X11_found (by decide +kernel) ⟨by decide, by decide⟩ ⟨by decide, by decide⟩ (Nat.le_of_ble_eq_true rfl) rfl h (fun q hq => c_X11_found N _ _ _ q hq) (fun q6 _ h => ?_)
            exact AW_iret dX11_row_34 rfl ⟨Nat.zero_le _, Nat.zero_le _⟩ h
        · exact AW_fewer (fw_d (fw_d (fw_d (fw_d fw_n)))) (t_X11_row_22 N _ _ h)
def f_X11_row (N : Nat) (A : hP) (x0 : Option Nat) (x1 : Int32) (x2 : Int32) (x3 : Int32) : Option (Int32 × hP) := f_X11_row_0 N A x0 x1 x2 x3
set_option maxRecDepth 20000 in
theorem c_X11_row {l : Launch} (N : Nat) (A : hP) (x0 : Option Nat) (x1 : Int32) (x2 : Int32) (x3 : Int32) (res : Int32 × hP) (h : f_X11_row N A x0 x1 x2 x3 = some res) : Ct l mX11_row 1 0 0 A [va_rf x0, .int x1, .int x2, .int x3] (gi res) := Ct.of (lv := [(0, va_rf x0), (1, .int x1), (2, .int x2), (3, .int x3)]) (ls := [some (va_rf x0), some (.int x1), some (.int x2), some (.int x3)]) (by decide) (by simp [lv_args, g_cat_rf, cat_i, cat_l]) rfl (by simp [g_cat_rf, cat_i, cat_l]) (fun G => (t_X11_row_0 N A x0 x1 x2 x3 res h))
abbrev mX11_set : gM := gMk yX11_set cX11_set 5 (some .int)
def f_X11_set_45 (N : Nat) (A : hP) (x0 : Option Nat) : Option (Int32 × hP) := (oCk A x0 10).bind fun _ => (f_X11_found N A x0 (2 : Int32)).bind fun q1 => some (q1.1, q1.2)
set_option maxRecDepth 20000 in
set_option maxHeartbeats 4000000 in
theorem t_X11_set_45 {l : Launch} {G : gS} (N : Nat) (A : hP) (x0 : Option Nat) (res : Int32 × hP) (h : f_X11_set_45 N A x0 = some res) : AW l mX11_set (g_rm 1 0 0) G (g_Qf G (gi res) 0 0) A 0 0 45 [some (va_rf x0), none, none, none, none] [] := by
  unfold f_X11_set_45 at h
  refine AW_aload_n dX11_set_45 rfl ?_
  refine AW_iconst (v := 2) dX11_set_46 (by decide) ?_
  refine AW_callVi (y := yX11_found) (cc := cX11_found) (n := 2) (d := 0) (mc := 0) (ms := 0) (np := 1) (ret := (some .int)) (As := [.int (2 : Int32)]) (st := []) (ci := 10) dX11_set_47 gT_s rfl tM_X11_56 tI_X11_found selp_X11_found tIni_X11 tY_X11_found (by decide +kernel) ⟨by decide, by decide⟩ ⟨by decide, by decide⟩ (Nat.le_of_ble_eq_true rfl) rfl h (fun q hq => c_X11_found N _ _ _ q hq) (fun q1 _ h => ?_)
  exact AW_iret dX11_set_50 rfl ⟨Nat.zero_le _, Nat.zero_le _⟩ h
def f_X11_set_0 (N : Nat) (A : hP) (x0 : Option Nat) (x1 : Int32) (x2 : Int32) (x3 : Int32) : Option (Int32 × hP) := (f_X11_isRow N A x1).bind fun q2 => if q2.1 = (0) then (some ((-1000001 : Int32), q2.2)) else ((oR q2.2 x0 10 0).bind fun v3 => (oQ q2.2 v3 3 x1).bind fun v4 => (oI q2.2 v4 3 0).bind fun v5 => if v5 = (0) then ((oCk q2.2 x0 10).bind fun _ => (f_X11_found N q2.2 x0 (1 : Int32)).bind fun q13 => some (q13.1, q13.2)) else (if x2 < (0) then (f_X11_set_45 N q2.2 x0) else ((oI q2.2 v4 3 2).bind fun v6 => if x2 < v6 then ((oR q2.2 v4 3 3).bind fun v7 => (oCk q2.2 v4 3).bind fun _ => (f_X3_cut N q2.2 v4 x3).bind fun q8 => (oS q8.2 v7 0 x2 q8.1).bind fun A9 => (oR A9 v4 3 3).bind fun v10 => (oA A9 v10 0 x2).bind fun v11 => (oCk A9 x0 10).bind fun _ => (f_X11_passed N A9 x0 v11).bind fun q12 => some (q12.1, q12.2)) else (f_X11_set_45 N q2.2 x0))))
set_option maxRecDepth 20000 in
set_option maxHeartbeats 4000000 in
theorem t_X11_set_0 {l : Launch} {G : gS} (N : Nat) (A : hP) (x0 : Option Nat) (x1 : Int32) (x2 : Int32) (x3 : Int32) (res : Int32 × hP) (h : f_X11_set_0 N A x0 x1 x2 x3 = some res) : AW l mX11_set (g_rm 1 0 0) G (g_Qf G (gi res) 0 0) A 0 0 0 [some (va_rf x0), some (.int x1), some (.int x2), some (.int x3), none] [] := by
  unfold f_X11_set_0 at h
  refine AW_iload_n dX11_set_0 rfl ?_
  refine AW_callSi (y := yX11_isRow) (cc := cX11_isRow) (n := 1) (d := 0) (mc := 0) (ms := 0) (np := 1) (ret := (some .boolean)) (As := [.int x1]) (st := []) dX11_set_1 gT_s tM_X11_51 tS_X11_isRow tIni_X11 tY_X11_isRow (by decide +kernel) ⟨by decide, by decide⟩ ⟨by decide, by decide⟩ (Nat.le_of_ble_eq_true rfl) rfl h (fun q hq => c_X11_isRow N _ _ q hq) (fun q2 _ h => ?_)
  refine AW_if_ne (tgt := 10) dX11_set_4 (by decide) h (fun _ h => ?_) (fun _ h => ?_)
  · refine AW_aload_n dX11_set_10 rfl ?_
    refine AW_getR (ci := 10) (k0 := 0) (C := RX11) (T := TX11) (N := 9) dX11_set_11 rfl (gT_u tU_X11) (by decide) (List.mem_cons_of_mem _ tF_X11_11) h (fun v3 _ h => ?_)
    refine AW_iload_n dX11_set_14 rfl ?_
    refine AW_aald (fun _ => rfl) dX11_set_15 h (fun v4 _ h => ?_)
    refine AW_astore (ls' := [some (va_rf x0), some (.int x1), some (.int x2), some (.int x3), some (va_rf v4)]) dX11_set_16 (c1_i rfl) (by decide) rfl ?_
    refine AW_aload dX11_set_18 rfl ?_
    refine AW_getI (ci := 3) (k0 := 0) (C := RX3) (T := TX3) (N := 4) dX11_set_20 rfl (gT_u tU_X3) (by decide) (List.mem_cons_of_mem _ tF_X11_67) h (fun v5 _ h => ?_)
    refine AW_if_ne (tgt := 32) dX11_set_23 (by decide) h (fun _ h => ?_) (fun _ h => ?_)
    · refine AW_iload_n dX11_set_32 rfl ?_
      refine AW_if_lt (tgt := 45) dX11_set_33 (by decide) h (fun _ h => ?_) (fun _ h => ?_)
      · exact AW_fewer (fw_k (fw_d (fw_d (fw_d (fw_d fw_n))))) (t_X11_set_45 N _ _ _ h)
      · refine AW_iload_n dX11_set_36 rfl ?_
        refine AW_aload dX11_set_37 rfl ?_
        refine AW_getI (ci := 3) (k0 := 2) (C := RX3) (T := TX3) (N := 4) dX11_set_39 rfl (gT_u tU_X3) (by decide) (List.mem_cons_of_mem _ tF_X11_71) h (fun v6 _ h => ?_)
        refine AW_icmp_lt (tgt := 51) dX11_set_42 (by decide) h (fun _ h => ?_) (fun _ h => ?_)
        · refine AW_aload dX11_set_51 rfl ?_
          refine AW_getR (ci := 3) (k0 := 3) (C := RX3) (T := TX3) (N := 4) dX11_set_53 rfl (gT_u tU_X3) (by decide) (List.mem_cons_of_mem _ tF_X11_75) h (fun v7 _ h => ?_)
          refine AW_iload_n dX11_set_56 rfl ?_
          refine AW_aload dX11_set_57 rfl ?_
          refine AW_iload_n dX11_set_59 rfl ?_
          refine AW_callVi (y := yX3_cut) (cc := cX3_cut) (n := 2) (d := 0) (mc := 0) (ms := 0) (np := 1) (ret := (some .int)) (As := [.int x3]) (st := [.int x2, va_rf v7]) (ci := 3) dX11_set_60 gT_s rfl tM_X11_79 tI_X3_cut tSel_X3_X3_X3_cut tIni_X3 tY_X3_cut (by decide +kernel) ⟨by decide, by decide⟩ ⟨by decide, by decide⟩ (Nat.le_of_ble_eq_true rfl) rfl h (fun q hq => c_X3_cut N _ _ _ q hq) (fun q8 _ h => ?_)
          refine AW_iast dX11_set_63 h (fun A9 _ h => ?_)
          refine AW_aload_n dX11_set_64 rfl ?_
          refine AW_aload dX11_set_65 rfl ?_
          refine AW_getR (ci := 3) (k0 := 3) (C := RX3) (T := TX3) (N := 4) dX11_set_67 rfl (gT_u tU_X3) (by decide) (List.mem_cons_of_mem _ tF_X11_75) h (fun v10 _ h => ?_)
          refine AW_iload_n dX11_set_70 rfl ?_
          refine AW_iald dX11_set_71 h (fun v11 _ h => ?_)
          refine AW_callVi (y := yX11_passed) (cc := cX11_passed) (n := 2) (d := 0) (mc := 0) (ms := 0) (np := 1) (ret := (some .int)) (As := [.int v11]) (st := []) (ci := 10) dX11_set_72 gT_s rfl tM_X11_64 tI_X11_passed selp_X11_passed tIni_X11 tY_X11_passed (by decide +kernel) ⟨by decide, by decide⟩ ⟨by decide, by decide⟩ (Nat.le_of_ble_eq_true rfl) rfl h (fun q hq => c_X11_passed N _ _ _ q hq) (fun q12 _ h => ?_)
          exact AW_iret dX11_set_75 rfl ⟨Nat.zero_le _, Nat.zero_le _⟩ h
        · exact AW_fewer (fw_k (fw_d (fw_d (fw_d (fw_d fw_n))))) (t_X11_set_45 N _ _ _ h)
    · refine AW_aload_n dX11_set_26 rfl ?_
      refine AW_iconst (v := 1) dX11_set_27 (by decide) ?_
      refine AW_callVi (y := yX11_found) (cc := cX11_found) (n := 2) (d := 0) (mc := 0) (ms := 0) (np := 1) (ret := (some .int)) (As := [.int (1 : Int32)]) (st := []) (ci := 10) dX11_set_28 gT_s rfl tM_X11_56 tI_X11_found selp_X11_found tIni_X11 tY_X11_found (by decide +kernel) ⟨by decide, by decide⟩ ⟨by decide, by decide⟩ (Nat.le_of_ble_eq_true rfl) rfl h (fun q hq => c_X11_found N _ _ _ q hq) (fun q13 _ h => ?_)
      exact AW_iret dX11_set_31 rfl ⟨Nat.zero_le _, Nat.zero_le _⟩ h
  · refine AW_ldc (v := -1000001) dX11_set_7 (List.mem_cons_of_mem _ tK_X11_55) ?_
    exact AW_iret dX11_set_9 rfl ⟨Nat.zero_le _, Nat.zero_le _⟩ h
def f_X11_set (N : Nat) (A : hP) (x0 : Option Nat) (x1 : Int32) (x2 : Int32) (x3 : Int32) : Option (Int32 × hP) := f_X11_set_0 N A x0 x1 x2 x3
set_option maxRecDepth 20000 in
theorem c_X11_set {l : Launch} (N : Nat) (A : hP) (x0 : Option Nat) (x1 : Int32) (x2 : Int32) (x3 : Int32) (res : Int32 × hP) (h : f_X11_set N A x0 x1 x2 x3 = some res) : Ct l mX11_set 1 0 0 A [va_rf x0, .int x1, .int x2, .int x3] (gi res) := Ct.of (lv := [(0, va_rf x0), (1, .int x1), (2, .int x2), (3, .int x3)]) (ls := [some (va_rf x0), some (.int x1), some (.int x2), some (.int x3), none]) (by decide) (by simp [lv_args, g_cat_rf, cat_i, cat_l]) rfl (by simp [g_cat_rf, cat_i, cat_l]) (fun G => (t_X11_set_0 N A x0 x1 x2 x3 res h))
abbrev mX11_copy : gM := gMk yX11_copy cX11_copy 8 (some .int)
def f_X11_copy_14 (N : Nat) (A : hP) : Option (Int32 × hP) := some ((-1000001 : Int32), A)
set_option maxRecDepth 20000 in
set_option maxHeartbeats 4000000 in
theorem t_X11_copy_14 {l : Launch} {G : gS} (N : Nat) (A : hP) (res : Int32 × hP) (h : f_X11_copy_14 N A  = some res) : AW l mX11_copy (g_rm 1 0 0) G (g_Qf G (gi res) 0 0) A 0 0 14 [none, none, none, none, none, none, none, none] [] := by
  unfold f_X11_copy_14 at h
  refine AW_ldc (v := -1000001) dX11_copy_14 (List.mem_cons_of_mem _ tK_X11_55) ?_
  exact AW_iret dX11_copy_16 rfl ⟨Nat.zero_le _, Nat.zero_le _⟩ h
def f_X11_copy_49 (N : Nat) (A : hP) (x0 : Option Nat) : Option (Int32 × hP) := (oCk A x0 10).bind fun _ => (f_X11_found N A x0 (1 : Int32)).bind fun q1 => some (q1.1, q1.2)
set_option maxRecDepth 20000 in
set_option maxHeartbeats 4000000 in
theorem t_X11_copy_49 {l : Launch} {G : gS} (N : Nat) (A : hP) (x0 : Option Nat) (res : Int32 × hP) (h : f_X11_copy_49 N A x0 = some res) : AW l mX11_copy (g_rm 1 0 0) G (g_Qf G (gi res) 0 0) A 0 0 49 [some (va_rf x0), none, none, none, none, none, none, none] [] := by
  unfold f_X11_copy_49 at h
  refine AW_aload_n dX11_copy_49 rfl ?_
  refine AW_iconst (v := 1) dX11_copy_50 (by decide) ?_
  refine AW_callVi (y := yX11_found) (cc := cX11_found) (n := 2) (d := 0) (mc := 0) (ms := 0) (np := 1) (ret := (some .int)) (As := [.int (1 : Int32)]) (st := []) (ci := 10) dX11_copy_51 gT_s rfl tM_X11_56 tI_X11_found selp_X11_found tIni_X11 tY_X11_found (by decide +kernel) ⟨by decide, by decide⟩ ⟨by decide, by decide⟩ (Nat.le_of_ble_eq_true rfl) rfl h (fun q hq => c_X11_found N _ _ _ q hq) (fun q1 _ h => ?_)
  exact AW_iret dX11_copy_54 rfl ⟨Nat.zero_le _, Nat.zero_le _⟩ h
def f_X11_copy_97 (N : Nat) (A : hP) (x0 : Option Nat) : Option (Int32 × hP) := (oCk A x0 10).bind fun _ => (f_X11_found N A x0 (2 : Int32)).bind fun q2 => some (q2.1, q2.2)
set_option maxRecDepth 20000 in
set_option maxHeartbeats 4000000 in
theorem t_X11_copy_97 {l : Launch} {G : gS} (N : Nat) (A : hP) (x0 : Option Nat) (res : Int32 × hP) (h : f_X11_copy_97 N A x0 = some res) : AW l mX11_copy (g_rm 1 0 0) G (g_Qf G (gi res) 0 0) A 0 0 97 [some (va_rf x0), none, none, none, none, none, none, none] [] := by
  unfold f_X11_copy_97 at h
  refine AW_aload_n dX11_copy_97 rfl ?_
  refine AW_iconst (v := 2) dX11_copy_98 (by decide) ?_
  refine AW_callVi (y := yX11_found) (cc := cX11_found) (n := 2) (d := 0) (mc := 0) (ms := 0) (np := 1) (ret := (some .int)) (As := [.int (2 : Int32)]) (st := []) (ci := 10) dX11_copy_99 gT_s rfl tM_X11_56 tI_X11_found selp_X11_found tIni_X11 tY_X11_found (by decide +kernel) ⟨by decide, by decide⟩ ⟨by decide, by decide⟩ (Nat.le_of_ble_eq_true rfl) rfl h (fun q hq => c_X11_found N _ _ _ q hq) (fun q2 _ h => ?_)
  exact AW_iret dX11_copy_102 rfl ⟨Nat.zero_le _, Nat.zero_le _⟩ h
def f_X11_copy_0 (N : Nat) (A : hP) (x0 : Option Nat) (x1 : Int32) (x2 : Int32) (x3 : Int32) (x4 : Int32) (x5 : Int32) : Option (Int32 × hP) := (f_X11_isRow N A x1).bind fun q3 => if q3.1 = (0) then (f_X11_copy_14 N q3.2) else ((f_X11_isRow N q3.2 x3).bind fun q4 => if q4.1 = (0) then (f_X11_copy_14 N q4.2) else ((oR q4.2 x0 10 0).bind fun v5 => (oQ q4.2 v5 3 x1).bind fun v6 => (oR q4.2 x0 10 0).bind fun v7 => (oQ q4.2 v7 3 x3).bind fun v8 => (oI q4.2 v6 3 0).bind fun v9 => if v9 = (0) then (f_X11_copy_49 N q4.2 x0) else ((oI q4.2 v8 3 0).bind fun v10 => if v10 = (0) then (f_X11_copy_49 N q4.2 x0) else ((oI q4.2 v6 3 1).bind fun v11 => (oI q4.2 v8 3 1).bind fun v12 => if v11 = v12 then ((oCk q4.2 v6 3).bind fun _ => (f_X3_hasPlaces N q4.2 v6 x2 x5).bind fun q13 => if q13.1 = (0) then (f_X11_copy_97 N q13.2 x0) else ((oCk q13.2 v8 3).bind fun _ => (f_X3_hasPlaces N q13.2 v8 x4 x5).bind fun q14 => if q14.1 = (0) then (f_X11_copy_97 N q14.2 x0) else ((oR q14.2 v6 3 3).bind fun v15 => (oR q14.2 v8 3 3).bind fun v16 => (oK q14.2 v15 x2 v16 x4 x5).bind fun A17 => (oCk A17 x0 10).bind fun _ => (f_X11_passed N A17 x0 x5).bind fun q18 => some (q18.1, q18.2)))) else ((oCk q4.2 x0 10).bind fun _ => (f_X11_found N q4.2 x0 (5 : Int32)).bind fun q19 => some (q19.1, q19.2))))))
set_option maxRecDepth 20000 in
set_option maxHeartbeats 4000000 in
theorem t_X11_copy_0 {l : Launch} {G : gS} (N : Nat) (A : hP) (x0 : Option Nat) (x1 : Int32) (x2 : Int32) (x3 : Int32) (x4 : Int32) (x5 : Int32) (res : Int32 × hP) (h : f_X11_copy_0 N A x0 x1 x2 x3 x4 x5 = some res) : AW l mX11_copy (g_rm 1 0 0) G (g_Qf G (gi res) 0 0) A 0 0 0 [some (va_rf x0), some (.int x1), some (.int x2), some (.int x3), some (.int x4), some (.int x5), none, none] [] := by
  unfold f_X11_copy_0 at h
  refine AW_iload_n dX11_copy_0 rfl ?_
  refine AW_callSi (y := yX11_isRow) (cc := cX11_isRow) (n := 1) (d := 0) (mc := 0) (ms := 0) (np := 1) (ret := (some .boolean)) (As := [.int x1]) (st := []) dX11_copy_1 gT_s tM_X11_51 tS_X11_isRow tIni_X11 tY_X11_isRow (by decide +kernel) ⟨by decide, by decide⟩ ⟨by decide, by decide⟩ (Nat.le_of_ble_eq_true rfl) rfl h (fun q hq => c_X11_isRow N _ _ q hq) (fun q3 _ h => ?_)
  refine AW_if_eq (tgt := 14) dX11_copy_4 (by decide) h (fun _ h => ?_) (fun _ h => ?_)
  · exact AW_fewer (fw_d (fw_d (fw_d (fw_d (fw_d (fw_d (fw_k (fw_k fw_n)))))))) (t_X11_copy_14 N _ _ h)
  · refine AW_iload_n dX11_copy_7 rfl ?_
    refine AW_callSi (y := yX11_isRow) (cc := cX11_isRow) (n := 1) (d := 0) (mc := 0) (ms := 0) (np := 1) (ret := (some .boolean)) (As := [.int x3]) (st := []) dX11_copy_8 gT_s tM_X11_51 tS_X11_isRow tIni_X11 tY_X11_isRow (by decide +kernel) ⟨by decide, by decide⟩ ⟨by decide, by decide⟩ (Nat.le_of_ble_eq_true rfl) rfl h (fun q hq => c_X11_isRow N _ _ q hq) (fun q4 _ h => ?_)
    refine AW_if_ne (tgt := 17) dX11_copy_11 (by decide) h (fun _ h => ?_) (fun _ h => ?_)
    · refine AW_aload_n dX11_copy_17 rfl ?_
      refine AW_getR (ci := 10) (k0 := 0) (C := RX11) (T := TX11) (N := 9) dX11_copy_18 rfl (gT_u tU_X11) (by decide) (List.mem_cons_of_mem _ tF_X11_11) h (fun v5 _ h => ?_)
      refine AW_iload_n dX11_copy_21 rfl ?_
      refine AW_aald (fun _ => rfl) dX11_copy_22 h (fun v6 _ h => ?_)
      refine AW_astore (ls' := [some (va_rf x0), some (.int x1), some (.int x2), some (.int x3), some (.int x4), some (.int x5), some (va_rf v6), none]) dX11_copy_23 (c1_i rfl) (by decide) rfl ?_
      refine AW_aload_n dX11_copy_25 rfl ?_
      refine AW_getR (ci := 10) (k0 := 0) (C := RX11) (T := TX11) (N := 9) dX11_copy_26 rfl (gT_u tU_X11) (by decide) (List.mem_cons_of_mem _ tF_X11_11) h (fun v7 _ h => ?_)
      refine AW_iload_n dX11_copy_29 rfl ?_
      refine AW_aald (fun _ => rfl) dX11_copy_30 h (fun v8 _ h => ?_)
      refine AW_astore (ls' := [some (va_rf x0), some (.int x1), some (.int x2), some (.int x3), some (.int x4), some (.int x5), some (va_rf v6), some (va_rf v8)]) dX11_copy_31 (c1_r rfl) (by decide) rfl ?_
      refine AW_aload dX11_copy_33 rfl ?_
      refine AW_getI (ci := 3) (k0 := 0) (C := RX3) (T := TX3) (N := 4) dX11_copy_35 rfl (gT_u tU_X3) (by decide) (List.mem_cons_of_mem _ tF_X11_67) h (fun v9 _ h => ?_)
      refine AW_if_eq (tgt := 49) dX11_copy_38 (by decide) h (fun _ h => ?_) (fun _ h => ?_)
      · exact AW_fewer (fw_k (fw_d (fw_d (fw_d (fw_d (fw_d (fw_d (fw_d fw_n)))))))) (t_X11_copy_49 N _ _ _ h)
      · refine AW_aload dX11_copy_41 rfl ?_
        refine AW_getI (ci := 3) (k0 := 0) (C := RX3) (T := TX3) (N := 4) dX11_copy_43 rfl (gT_u tU_X3) (by decide) (List.mem_cons_of_mem _ tF_X11_67) h (fun v10 _ h => ?_)
        refine AW_if_ne (tgt := 55) dX11_copy_46 (by decide) h (fun _ h => ?_) (fun _ h => ?_)
        · refine AW_aload dX11_copy_55 rfl ?_
          refine AW_getI (ci := 3) (k0 := 1) (C := RX3) (T := TX3) (N := 4) dX11_copy_57 rfl (gT_u tU_X3) (by decide) (List.mem_cons_of_mem _ tF_X11_82) h (fun v11 _ h => ?_)
          refine AW_aload dX11_copy_60 rfl ?_
          refine AW_getI (ci := 3) (k0 := 1) (C := RX3) (T := TX3) (N := 4) dX11_copy_62 rfl (gT_u tU_X3) (by decide) (List.mem_cons_of_mem _ tF_X11_82) h (fun v12 _ h => ?_)
          refine AW_icmp_eq (tgt := 74) dX11_copy_65 (by decide) h (fun _ h => ?_) (fun _ h => ?_)
          · refine AW_aload dX11_copy_74 rfl ?_
            refine AW_iload_n dX11_copy_76 rfl ?_
            refine AW_iload dX11_copy_77 rfl ?_
            refine AW_callVi (y := yX3_hasPlaces) (cc := cX3_hasPlaces) (n := 3) (d := 0) (mc := 0) (ms := 0) (np := 2) (ret := (some .boolean)) (As := [.int x2, .int x5]) (st := []) (ci := 3) dX11_copy_79 gT_s rfl tM_X11_85 tI_X3_hasPlaces tSel_X3_X3_X3_hasPlaces tIni_X3 tY_X3_hasPlaces (by decide +kernel) ⟨by decide, by decide⟩ ⟨by decide, by decide⟩ (Nat.le_of_ble_eq_true rfl) rfl h (fun q hq => c_X3_hasPlaces N _ _ _ _ q hq) (fun q13 _ h => ?_)
            refine AW_if_eq (tgt := 97) dX11_copy_82 (by decide) h (fun _ h => ?_) (fun _ h => ?_)
            · exact AW_fewer (fw_k (fw_d (fw_d (fw_d (fw_d (fw_d (fw_d (fw_d fw_n)))))))) (t_X11_copy_97 N _ _ _ h)
            · refine AW_aload dX11_copy_85 rfl ?_
              refine AW_iload dX11_copy_87 rfl ?_
              refine AW_iload dX11_copy_89 rfl ?_
              refine AW_callVi (y := yX3_hasPlaces) (cc := cX3_hasPlaces) (n := 3) (d := 0) (mc := 0) (ms := 0) (np := 2) (ret := (some .boolean)) (As := [.int x4, .int x5]) (st := []) (ci := 3) dX11_copy_91 gT_s rfl tM_X11_85 tI_X3_hasPlaces tSel_X3_X3_X3_hasPlaces tIni_X3 tY_X3_hasPlaces (by decide +kernel) ⟨by decide, by decide⟩ ⟨by decide, by decide⟩ (Nat.le_of_ble_eq_true rfl) rfl h (fun q hq => c_X3_hasPlaces N _ _ _ _ q hq) (fun q14 _ h => ?_)
              refine AW_if_ne (tgt := 103) dX11_copy_94 (by decide) h (fun _ h => ?_) (fun _ h => ?_)
              · refine AW_aload dX11_copy_103 rfl ?_
                refine AW_getR (ci := 3) (k0 := 3) (C := RX3) (T := TX3) (N := 4) dX11_copy_105 rfl (gT_u tU_X3) (by decide) (List.mem_cons_of_mem _ tF_X11_75) h (fun v15 _ h => ?_)
                refine AW_iload_n dX11_copy_108 rfl ?_
                refine AW_aload dX11_copy_109 rfl ?_
                refine AW_getR (ci := 3) (k0 := 3) (C := RX3) (T := TX3) (N := 4) dX11_copy_111 rfl (gT_u tU_X3) (by decide) (List.mem_cons_of_mem _ tF_X11_75) h (fun v16 _ h => ?_)
                refine AW_iload dX11_copy_114 rfl ?_
                refine AW_iload dX11_copy_116 rfl ?_
                refine AW_acopy dX11_copy_118 gT_s tM_X11_89 tNat_acopy tS_acopy tIni_J10 ⟨by decide, by decide⟩ (Nat.le_of_ble_eq_true rfl) h (fun A17 _ h => ?_)
                refine AW_aload_n dX11_copy_121 rfl ?_
                refine AW_iload dX11_copy_122 rfl ?_
                refine AW_callVi (y := yX11_passed) (cc := cX11_passed) (n := 2) (d := 0) (mc := 0) (ms := 0) (np := 1) (ret := (some .int)) (As := [.int x5]) (st := []) (ci := 10) dX11_copy_124 gT_s rfl tM_X11_64 tI_X11_passed selp_X11_passed tIni_X11 tY_X11_passed (by decide +kernel) ⟨by decide, by decide⟩ ⟨by decide, by decide⟩ (Nat.le_of_ble_eq_true rfl) rfl h (fun q hq => c_X11_passed N _ _ _ q hq) (fun q18 _ h => ?_)
                exact AW_iret dX11_copy_127 rfl ⟨Nat.zero_le _, Nat.zero_le _⟩ h
              · exact AW_fewer (fw_k (fw_d (fw_d (fw_d (fw_d (fw_d (fw_d (fw_d fw_n)))))))) (t_X11_copy_97 N _ _ _ h)
          · refine AW_aload_n dX11_copy_68 rfl ?_
            refine AW_iconst (v := 5) dX11_copy_69 (by decide) ?_
            refine AW_callVi (y := yX11_found) (cc := cX11_found) (n := 2) (d := 0) (mc := 0) (ms := 0) (np := 1) (ret := (some .int)) (As := [.int (5 : Int32)]) (st := []) (ci := 10) dX11_copy_70 gT_s rfl tM_X11_56 tI_X11_found selp_X11_found tIni_X11 tY_X11_found (by decide +kernel) ⟨by decide, by decide⟩ ⟨by decide, by decide⟩ (Nat.le_of_ble_eq_true rfl) rfl h (fun q hq => c_X11_found N _ _ _ q hq) (fun q19 _ h => ?_)
            exact AW_iret dX11_copy_73 rfl ⟨Nat.zero_le _, Nat.zero_le _⟩ h
        · exact AW_fewer (fw_k (fw_d (fw_d (fw_d (fw_d (fw_d (fw_d (fw_d fw_n)))))))) (t_X11_copy_49 N _ _ _ h)
    · exact AW_fewer (fw_d (fw_d (fw_d (fw_d (fw_d (fw_d (fw_k (fw_k fw_n)))))))) (t_X11_copy_14 N _ _ h)
def f_X11_copy (N : Nat) (A : hP) (x0 : Option Nat) (x1 : Int32) (x2 : Int32) (x3 : Int32) (x4 : Int32) (x5 : Int32) : Option (Int32 × hP) := f_X11_copy_0 N A x0 x1 x2 x3 x4 x5
set_option maxRecDepth 20000 in
theorem c_X11_copy {l : Launch} (N : Nat) (A : hP) (x0 : Option Nat) (x1 : Int32) (x2 : Int32) (x3 : Int32) (x4 : Int32) (x5 : Int32) (res : Int32 × hP) (h : f_X11_copy N A x0 x1 x2 x3 x4 x5 = some res) : Ct l mX11_copy 1 0 0 A [va_rf x0, .int x1, .int x2, .int x3, .int x4, .int x5] (gi res) := Ct.of (lv := [(0, va_rf x0), (1, .int x1), (2, .int x2), (3, .int x3), (4, .int x4), (5, .int x5)]) (ls := [some (va_rf x0), some (.int x1), some (.int x2), some (.int x3), some (.int x4), some (.int x5), none, none]) (by decide) (by simp [lv_args, g_cat_rf, cat_i, cat_l]) rfl (by simp [g_cat_rf, cat_i, cat_l]) (fun G => (t_X11_copy_0 N A x0 x1 x2 x3 x4 x5 res h))
abbrev mX11_drop : gM := gMk yX11_drop cX11_drop 2 (some .int)
def f_X11_drop_0 (N : Nat) (A : hP) (x0 : Option Nat) (x1 : Int32) : Option (Int32 × hP) := (f_X11_isRow N A x1).bind fun q1 => if q1.1 = (0) then (some ((-1000001 : Int32), q1.2)) else ((oR q1.2 x0 10 0).bind fun v2 => (oQ q1.2 v2 3 x1).bind fun v3 => (oI q1.2 v3 3 0).bind fun v4 => if v4 = (0) then ((oCk q1.2 x0 10).bind fun _ => (f_X11_found N q1.2 x0 (1 : Int32)).bind fun q12 => some (q12.1, q12.2)) else ((oR q1.2 x0 10 0).bind fun v5 => (oQ q1.2 v5 3 x1).bind fun v6 => (oPz q1.2 v6 3 0 (0 : Int32)).bind fun A7 => (oR A7 x0 10 0).bind fun v8 => (oQ A7 v8 3 x1).bind fun v9 => (oI A7 v9 3 2).bind fun v10 => (oCk A7 x0 10).bind fun _ => (f_X11_passed N A7 x0 v10).bind fun q11 => some (q11.1, q11.2)))
set_option maxRecDepth 20000 in
set_option maxHeartbeats 4000000 in
theorem t_X11_drop_0 {l : Launch} {G : gS} (N : Nat) (A : hP) (x0 : Option Nat) (x1 : Int32) (res : Int32 × hP) (h : f_X11_drop_0 N A x0 x1 = some res) : AW l mX11_drop (g_rm 1 0 0) G (g_Qf G (gi res) 0 0) A 0 0 0 [some (va_rf x0), some (.int x1)] [] := by
  unfold f_X11_drop_0 at h
  refine AW_iload_n dX11_drop_0 rfl ?_
  refine AW_callSi (y := yX11_isRow) (cc := cX11_isRow) (n := 1) (d := 0) (mc := 0) (ms := 0) (np := 1) (ret := (some .boolean)) (As := [.int x1]) (st := []) dX11_drop_1 gT_s tM_X11_51 tS_X11_isRow tIni_X11 tY_X11_isRow (by decide +kernel) ⟨by decide, by decide⟩ ⟨by decide, by decide⟩ (Nat.le_of_ble_eq_true rfl) rfl h (fun q hq => c_X11_isRow N _ _ q hq) (fun q1 _ h => ?_)
  refine AW_if_ne (tgt := 10) dX11_drop_4 (by decide) h (fun _ h => ?_) (fun _ h => ?_)
  · refine AW_aload_n dX11_drop_10 rfl ?_
    refine AW_getR (ci := 10) (k0 := 0) (C := RX11) (T := TX11) (N := 9) dX11_drop_11 rfl (gT_u tU_X11) (by decide) (List.mem_cons_of_mem _ tF_X11_11) h (fun v2 _ h => ?_)
    refine AW_iload_n dX11_drop_14 rfl ?_
    refine AW_aald (fun _ => rfl) dX11_drop_15 h (fun v3 _ h => ?_)
    refine AW_getI (ci := 3) (k0 := 0) (C := RX3) (T := TX3) (N := 4) dX11_drop_16 rfl (gT_u tU_X3) (by decide) (List.mem_cons_of_mem _ tF_X11_67) h (fun v4 _ h => ?_)
    refine AW_if_ne (tgt := 28) dX11_drop_19 (by decide) h (fun _ h => ?_) (fun _ h => ?_)
    · refine AW_aload_n dX11_drop_28 rfl ?_
      refine AW_getR (ci := 10) (k0 := 0) (C := RX11) (T := TX11) (N := 9) dX11_drop_29 rfl (gT_u tU_X11) (by decide) (List.mem_cons_of_mem _ tF_X11_11) h (fun v5 _ h => ?_)
      refine AW_iload_n dX11_drop_32 rfl ?_
      refine AW_aald (fun _ => rfl) dX11_drop_33 h (fun v6 _ h => ?_)
      refine AW_iconst (v := 0) dX11_drop_34 (by decide) ?_
      refine AW_putZ (ci := 3) (k0 := 0) (C := RX3) (T := TX3) (N := 4) (ty0 := tyX3) dX11_drop_35 rfl (gT_u tU_X3) tyX3_ok nmX3 (by decide) (List.mem_cons_of_mem _ tF_X11_67) rfl rfl h (fun A7 _ h => ?_)
      refine AW_aload_n dX11_drop_38 rfl ?_
      refine AW_aload_n dX11_drop_39 rfl ?_
      refine AW_getR (ci := 10) (k0 := 0) (C := RX11) (T := TX11) (N := 9) dX11_drop_40 rfl (gT_u tU_X11) (by decide) (List.mem_cons_of_mem _ tF_X11_11) h (fun v8 _ h => ?_)
      refine AW_iload_n dX11_drop_43 rfl ?_
      refine AW_aald (fun _ => rfl) dX11_drop_44 h (fun v9 _ h => ?_)
      refine AW_getI (ci := 3) (k0 := 2) (C := RX3) (T := TX3) (N := 4) dX11_drop_45 rfl (gT_u tU_X3) (by decide) (List.mem_cons_of_mem _ tF_X11_71) h (fun v10 _ h => ?_)
      refine AW_callVi (y := yX11_passed) (cc := cX11_passed) (n := 2) (d := 0) (mc := 0) (ms := 0) (np := 1) (ret := (some .int)) (As := [.int v10]) (st := []) (ci := 10) dX11_drop_48 gT_s rfl tM_X11_64 tI_X11_passed selp_X11_passed tIni_X11 tY_X11_passed (by decide +kernel) ⟨by decide, by decide⟩ ⟨by decide, by decide⟩ (Nat.le_of_ble_eq_true rfl) rfl h (fun q hq => c_X11_passed N _ _ _ q hq) (fun q11 _ h => ?_)
      exact AW_iret dX11_drop_51 rfl ⟨Nat.zero_le _, Nat.zero_le _⟩ h
    · refine AW_aload_n dX11_drop_22 rfl ?_
      refine AW_iconst (v := 1) dX11_drop_23 (by decide) ?_
      refine AW_callVi (y := yX11_found) (cc := cX11_found) (n := 2) (d := 0) (mc := 0) (ms := 0) (np := 1) (ret := (some .int)) (As := [.int (1 : Int32)]) (st := []) (ci := 10) dX11_drop_24 gT_s rfl tM_X11_56 tI_X11_found selp_X11_found tIni_X11 tY_X11_found (by decide +kernel) ⟨by decide, by decide⟩ ⟨by decide, by decide⟩ (Nat.le_of_ble_eq_true rfl) rfl h (fun q hq => c_X11_found N _ _ _ q hq) (fun q12 _ h => ?_)
      exact AW_iret dX11_drop_27 rfl ⟨Nat.zero_le _, Nat.zero_le _⟩ h
  · refine AW_ldc (v := -1000001) dX11_drop_7 (List.mem_cons_of_mem _ tK_X11_55) ?_
    exact AW_iret dX11_drop_9 rfl ⟨Nat.zero_le _, Nat.zero_le _⟩ h
def f_X11_drop (N : Nat) (A : hP) (x0 : Option Nat) (x1 : Int32) : Option (Int32 × hP) := f_X11_drop_0 N A x0 x1
set_option maxRecDepth 20000 in
theorem c_X11_drop {l : Launch} (N : Nat) (A : hP) (x0 : Option Nat) (x1 : Int32) (res : Int32 × hP) (h : f_X11_drop N A x0 x1 = some res) : Ct l mX11_drop 1 0 0 A [va_rf x0, .int x1] (gi res) := Ct.of (lv := [(0, va_rf x0), (1, .int x1)]) (ls := [some (va_rf x0), some (.int x1)]) (by decide) (by simp [lv_args, g_cat_rf, cat_i, cat_l]) rfl (by simp [g_cat_rf, cat_i, cat_l]) (fun G => (t_X11_drop_0 N A x0 x1 res h))
abbrev mX11_feed : gM := gMk yX11_feed cX11_feed 4 (some .int)
def f_X11_feed_11 (N : Nat) (A : hP) : Option (Int32 × hP) := some ((-1000001 : Int32), A)
set_option maxRecDepth 20000 in
set_option maxHeartbeats 4000000 in
theorem t_X11_feed_11 {l : Launch} {G : gS} (N : Nat) (A : hP) (res : Int32 × hP) (h : f_X11_feed_11 N A  = some res) : AW l mX11_feed (g_rm 1 0 0) G (g_Qf G (gi res) 0 0) A 0 0 11 [none, none, none, none] [] := by
  unfold f_X11_feed_11 at h
  refine AW_ldc (v := -1000001) dX11_feed_11 (List.mem_cons_of_mem _ tK_X11_55) ?_
  exact AW_iret dX11_feed_13 rfl ⟨Nat.zero_le _, Nat.zero_le _⟩ h
def f_X11_feed_39 (N : Nat) (A : hP) (s0 : Int32) : Option (Int32 × hP) := some (s0, A)
set_option maxRecDepth 20000 in
set_option maxHeartbeats 4000000 in
theorem t_X11_feed_39 {l : Launch} {G : gS} (N : Nat) (A : hP) (s0 : Int32) (res : Int32 × hP) (h : f_X11_feed_39 N A s0 = some res) : AW l mX11_feed (g_rm 1 0 0) G (g_Qf G (gi res) 0 0) A 0 0 39 [none, none, none, none] [.int s0] := by
  unfold f_X11_feed_39 at h
  exact AW_iret dX11_feed_39 rfl ⟨Nat.zero_le _, Nat.zero_le _⟩ h
def f_X11_feed_0 (N : Nat) (A : hP) (x0 : Option Nat) (x1 : Int64) (x3 : Int32) : Option (Int32 × hP) := if x3 < (1 : Int32) then (f_X11_feed_11 N A) else (if x3 ≤ (8 : Int32) then ((oR A x0 10 1).bind fun v1 => (oCk A v1 6).bind fun _ => (f_X6_hasRoom N A v1 x3).bind fun q2 => if q2.1 = (0) then (f_X11_feed_39 N q2.2 (-1000003 : Int32)) else ((oR q2.2 x0 10 1).bind fun v3 => (oCk q2.2 v3 6).bind fun _ => (f_X6_append N q2.2 v3 x1 x3).bind fun q4 => f_X11_feed_39 N q4.2 q4.1)) else (f_X11_feed_11 N A))
set_option maxRecDepth 20000 in
set_option maxHeartbeats 4000000 in
theorem t_X11_feed_0 {l : Launch} {G : gS} (N : Nat) (A : hP) (x0 : Option Nat) (x1 : Int64) (x3 : Int32) (res : Int32 × hP) (h : f_X11_feed_0 N A x0 x1 x3 = some res) : AW l mX11_feed (g_rm 1 0 0) G (g_Qf G (gi res) 0 0) A 0 0 0 [some (va_rf x0), some (.long x1), none, some (.int x3)] [] := by
  unfold f_X11_feed_0 at h
  refine AW_iload_n dX11_feed_0 rfl ?_
  refine AW_iconst (v := 1) dX11_feed_1 (by decide) ?_
  refine AW_icmp_lt (tgt := 11) dX11_feed_2 (by decide) h (fun _ h => ?_) (fun _ h => ?_)
  · exact AW_fewer (fw_d (fw_d (fw_k (fw_d fw_n)))) (t_X11_feed_11 N _ _ h)
  · refine AW_iload_n dX11_feed_5 rfl ?_
    refine AW_bipush (v := 8) dX11_feed_6 (by decide) ?_
    refine AW_icmp_le (tgt := 14) dX11_feed_8 (by decide) h (fun _ h => ?_) (fun _ h => ?_)
    · refine AW_aload_n dX11_feed_14 rfl ?_
      refine AW_getR (ci := 10) (k0 := 1) (C := RX11) (T := TX11) (N := 9) dX11_feed_15 rfl (gT_u tU_X11) (by decide) (List.mem_cons_of_mem _ tF_X11_18) h (fun v1 _ h => ?_)
      refine AW_iload_n dX11_feed_18 rfl ?_
      refine AW_callVi (y := yX6_hasRoom) (cc := cX6_hasRoom) (n := 2) (d := 0) (mc := 0) (ms := 0) (np := 1) (ret := (some .boolean)) (As := [.int x3]) (st := []) (ci := 6) dX11_feed_19 gT_s rfl tM_X11_95 tI_X6_hasRoom tSel_X6_X6_X6_hasRoom tIni_X6 tY_X6_hasRoom (by decide +kernel) ⟨by decide, by decide⟩ ⟨by decide, by decide⟩ (Nat.le_of_ble_eq_true rfl) rfl h (fun q hq => c_X6_hasRoom N _ _ _ q hq) (fun q2 _ h => ?_)
      refine AW_if_eq (tgt := 37) dX11_feed_22 (by decide) h (fun _ h => ?_) (fun _ h => ?_)
      · refine AW_ldc (v := -1000003) dX11_feed_37 (List.mem_cons_of_mem _ tK_X11_102) ?_
        exact AW_fewer (fw_d (fw_d (fw_k (fw_d fw_n)))) (t_X11_feed_39 N _ _ _ h)
      · refine AW_aload_n dX11_feed_25 rfl ?_
        refine AW_getR (ci := 10) (k0 := 1) (C := RX11) (T := TX11) (N := 9) dX11_feed_26 rfl (gT_u tU_X11) (by decide) (List.mem_cons_of_mem _ tF_X11_18) h (fun v3 _ h => ?_)
        refine AW_lload_n dX11_feed_29 rfl ?_
        refine AW_iload_n dX11_feed_30 rfl ?_
        refine AW_callVi (y := yX6_append) (cc := cX6_append) (n := 5) (d := 0) (mc := 0) (ms := 0) (np := 2) (ret := (some .int)) (As := [.long x1, .int x3]) (st := []) (ci := 6) dX11_feed_31 gT_s rfl tM_X11_98 tI_X6_append tSel_X6_X6_X6_append tIni_X6 tY_X6_append (by decide +kernel) ⟨by decide, by decide⟩ ⟨by decide, by decide⟩ (Nat.le_of_ble_eq_true rfl) rfl h (fun q hq => c_X6_append N _ _ _ _ q hq) (fun q4 _ h => ?_)
        refine AW_goto (tgt := 39) dX11_feed_34 (by decide) ?_
        exact AW_fewer (fw_d (fw_d (fw_k (fw_d fw_n)))) (t_X11_feed_39 N _ _ _ h)
    · exact AW_fewer (fw_d (fw_d (fw_k (fw_d fw_n)))) (t_X11_feed_11 N _ _ h)
def f_X11_feed (N : Nat) (A : hP) (x0 : Option Nat) (x1 : Int64) (x3 : Int32) : Option (Int32 × hP) := f_X11_feed_0 N A x0 x1 x3
set_option maxRecDepth 20000 in
theorem c_X11_feed {l : Launch} (N : Nat) (A : hP) (x0 : Option Nat) (x1 : Int64) (x3 : Int32) (res : Int32 × hP) (h : f_X11_feed N A x0 x1 x3 = some res) : Ct l mX11_feed 1 0 0 A [va_rf x0, .long x1, .int x3] (gi res) := Ct.of (lv := [(0, va_rf x0), (1, .long x1), (3, .int x3)]) (ls := [some (va_rf x0), some (.long x1), none, some (.int x3)]) (by decide) (by simp [lv_args, g_cat_rf, cat_i, cat_l]) rfl (by simp [g_cat_rf, cat_i, cat_l]) (fun G => (t_X11_feed_0 N A x0 x1 x3 res h))
abbrev mX11_port : gM := gMk yX11_port cX11_port 1 (some .int)
def f_X11_port_0 (N : Nat) (A : hP) (cs ss : Nat) (x0 : Option Nat) : Option (Int32 × hP) := (oR A x0 10 1).bind fun v1 => (oR A x0 10 3).bind fun v2 => if cs + 0 ≤ 4 ∧ ss + 0 ≤ 8 then ((oCk A v1 6).bind fun _ => (f_X6_readInto N A v1 v2).bind fun q3 => if q3.1 = (0) then ((oR q3.2 x0 10 1).bind fun v13 => (oI q3.2 v13 6 2).bind fun v14 => (oP q3.2 x0 10 7 (.int v14)).bind fun A15 => (oR A15 x0 10 1).bind fun v16 => (oI A15 v16 6 3).bind fun v17 => if cs + 0 ≤ 4 ∧ ss + 0 ≤ 8 then (some ((-1000100 : Int32) - v17, A15)) else none) else ((oR q3.2 x0 10 3).bind fun v4 => if cs + 0 + 4 ≤ 4 ∧ ss + 0 + 8 ≤ 8 then ((oCk q3.2 v4 2).bind fun _ => (f_X2_makeThings N q3.2 v4).bind fun q5 => (oR q5.2 x0 10 2).bind fun v6 => (oR q5.2 x0 10 3).bind fun v7 => if cs + 0 + 4 + 0 ≤ 4 ∧ ss + 0 + 8 + 0 ≤ 8 then ((oCk q5.2 v6 2).bind fun _ => (f_X2_become N q5.2 v6 v7).bind fun q8 => (oR q8.2 x0 10 5).bind fun v9 => if cs + 0 + 4 + 0 + 0 ≤ 4 ∧ ss + 0 + 8 + 0 + 0 ≤ 8 then ((oCk q8.2 v9 9).bind fun _ => (f_X10_forget N q8.2 v9).bind fun q10 => (oR q10.2 x0 10 2).bind fun v11 => (oI q10.2 v11 2 5).bind fun v12 => if cs + 0 + 4 + 0 + 0 ≤ 4 ∧ ss + 0 + 8 + 0 + 0 ≤ 8 then (some (v12, q10.2)) else none) else none) else none) else none)) else none
set_option maxRecDepth 20000 in
set_option maxHeartbeats 4000000 in
theorem t_X11_port_0 {l : Launch} {G : gS} (N : Nat) (A : hP) (cs ss : Nat) (x0 : Option Nat) (res : Int32 × hP) (h : f_X11_port_0 N A cs ss x0 = some res) : AW l mX11_port (g_rm 9 4 8) G (g_Qf G (gi res) 4 8) A cs ss 0 [some (va_rf x0)] [] := by
  unfold f_X11_port_0 at h
  refine AW_aload_n dX11_port_0 rfl ?_
  refine AW_getR (ci := 10) (k0 := 1) (C := RX11) (T := TX11) (N := 9) dX11_port_1 rfl (gT_u tU_X11) (by decide) (List.mem_cons_of_mem _ tF_X11_18) h (fun v1 _ h => ?_)
  refine AW_aload_n dX11_port_4 rfl ?_
  refine AW_getR (ci := 10) (k0 := 3) (C := RX11) (T := TX11) (N := 9) dX11_port_5 rfl (gT_u tU_X11) (by decide) (List.mem_cons_of_mem _ tF_X11_29) h (fun v2 _ h => ?_)
  refine AW_case h (fun hc h => ?_) (fun _ h => by cases h)
  refine AW_callVi (y := yX6_readInto) (cc := cX6_readInto) (n := 3) (d := 8) (mc := 0) (ms := 0) (np := 1) (ret := (some .boolean)) (As := [va_rf v2]) (st := []) (ci := 6) dX11_port_8 gT_s rfl tM_X11_103 tI_X6_readInto tSel_X6_X6_X6_readInto tIni_X6 tY_X6_readInto (by decide +kernel) ⟨by decide, by decide⟩ hc (Nat.le_of_ble_eq_true rfl) rfl h (fun q hq => c_X6_readInto N _ _ _ q hq) (fun q3 _ h => ?_)
  refine AW_if_ne (tgt := 36) dX11_port_11 (by decide) h (fun _ h => ?_) (fun _ h => ?_)
  · refine AW_aload_n dX11_port_36 rfl ?_
    refine AW_getR (ci := 10) (k0 := 3) (C := RX11) (T := TX11) (N := 9) dX11_port_37 rfl (gT_u tU_X11) (by decide) (List.mem_cons_of_mem _ tF_X11_29) h (fun v4 _ h => ?_)
    refine AW_case h (fun hc h => ?_) (fun _ h => by cases h)
    refine AW_callVu (y := yX2_makeThings) (cc := cX2_makeThings) (n := 2) (d := 5) (mc := 4) (ms := 8) (np := 0) (ret := none) (As := []) (st := []) (ci := 2) dX11_port_40 gT_s rfl tM_X11_117 tI_X2_makeThings tSel_X2_X2_X2_makeThings tIni_X2 tY_X2_makeThings (by decide +kernel) ⟨by decide, by decide⟩ hc (Nat.le_of_ble_eq_true rfl) rfl h (fun q hq => c_X2_makeThings N _ _ q hq) (fun q5 _ h => ?_)
    refine AW_aload_n dX11_port_43 rfl ?_
    refine AW_getR (ci := 10) (k0 := 2) (C := RX11) (T := TX11) (N := 9) dX11_port_44 rfl (gT_u tU_X11) (by decide) (List.mem_cons_of_mem _ tF_X11_25) h (fun v6 _ h => ?_)
    refine AW_aload_n dX11_port_47 rfl ?_
    refine AW_getR (ci := 10) (k0 := 3) (C := RX11) (T := TX11) (N := 9) dX11_port_48 rfl (gT_u tU_X11) (by decide) (List.mem_cons_of_mem _ tF_X11_29) h (fun v7 _ h => ?_)
    refine AW_case h (fun hc h => ?_) (fun _ h => by cases h)
    refine AW_callVu (y := yX2_become) (cc := cX2_become) (n := 3) (d := 1) (mc := 0) (ms := 0) (np := 1) (ret := none) (As := [va_rf v7]) (st := []) (ci := 2) dX11_port_51 gT_s rfl tM_X11_120 tI_X2_become tSel_X2_X2_X2_become tIni_X2 tY_X2_become (by decide +kernel) ⟨by decide, by decide⟩ hc (Nat.le_of_ble_eq_true rfl) rfl h (fun q hq => c_X2_become N _ _ _ q hq) (fun q8 _ h => ?_)
    refine AW_aload_n dX11_port_54 rfl ?_
    refine AW_getR (ci := 10) (k0 := 5) (C := RX11) (T := TX11) (N := 9) dX11_port_55 rfl (gT_u tU_X11) (by decide) (List.mem_cons_of_mem _ tF_X11_39) h (fun v9 _ h => ?_)
    refine AW_case h (fun hc h => ?_) (fun _ h => by cases h)
    refine AW_callVu (y := yX10_forget) (cc := cX10_forget) (n := 1) (d := 0) (mc := 0) (ms := 0) (np := 0) (ret := none) (As := []) (st := []) (ci := 9) dX11_port_58 gT_s rfl tM_X11_124 tI_X10_forget tSel_X10_X10_X10_forget tIni_X10 tY_X10_forget (by decide +kernel) ⟨by decide, by decide⟩ hc (Nat.le_of_ble_eq_true rfl) rfl h (fun q hq => c_X10_forget N _ _ q hq) (fun q10 _ h => ?_)
    refine AW_aload_n dX11_port_61 rfl ?_
    refine AW_getR (ci := 10) (k0 := 2) (C := RX11) (T := TX11) (N := 9) dX11_port_62 rfl (gT_u tU_X11) (by decide) (List.mem_cons_of_mem _ tF_X11_25) h (fun v11 _ h => ?_)
    refine AW_getI (ci := 2) (k0 := 5) (C := RX2) (T := TX2) (N := 11) dX11_port_65 rfl (gT_u tU_X2) (by decide) (List.mem_cons_of_mem _ tF_X11_127) h (fun v12 _ h => ?_)
    refine AW_case h (fun hc h => ?_) (fun _ h => by cases h)
    exact AW_iret dX11_port_68 rfl hc h
  · refine AW_aload_n dX11_port_14 rfl ?_
    refine AW_aload_n dX11_port_15 rfl ?_
    refine AW_getR (ci := 10) (k0 := 1) (C := RX11) (T := TX11) (N := 9) dX11_port_16 rfl (gT_u tU_X11) (by decide) (List.mem_cons_of_mem _ tF_X11_18) h (fun v13 _ h => ?_)
    refine AW_getI (ci := 6) (k0 := 2) (C := RX6) (T := TX6) (N := 8) dX11_port_19 rfl (gT_u tU_X6) (by decide) (List.mem_cons_of_mem _ tF_X11_107) h (fun v14 _ h => ?_)
    refine AW_put (ci := 10) (k0 := 7) (C := RX11) (T := TX11) (N := 9) (ty0 := tyX11) dX11_port_22 rfl (gT_u tU_X11) tyX11_ok nmX11 (by decide) (List.mem_cons_of_mem _ tF_X11_110) (Or.inl rfl) rfl rfl h (fun A15 _ h => ?_)
    refine AW_ldc (v := -1000100) dX11_port_25 (List.mem_cons_of_mem _ tK_X11_113) ?_
    refine AW_aload_n dX11_port_27 rfl ?_
    refine AW_getR (ci := 10) (k0 := 1) (C := RX11) (T := TX11) (N := 9) dX11_port_28 rfl (gT_u tU_X11) (by decide) (List.mem_cons_of_mem _ tF_X11_18) h (fun v16 _ h => ?_)
    refine AW_getI (ci := 6) (k0 := 3) (C := RX6) (T := TX6) (N := 8) dX11_port_31 rfl (gT_u tU_X6) (by decide) (List.mem_cons_of_mem _ tF_X11_114) h (fun v17 _ h => ?_)
    refine AW_isub dX11_port_34 ?_
    refine AW_case h (fun hc h => ?_) (fun _ h => by cases h)
    exact AW_iret dX11_port_35 rfl hc h
def f_X11_port (N : Nat) (A : hP) (x0 : Option Nat) : Option (Int32 × hP) := f_X11_port_0 N A 0 0 x0
set_option maxRecDepth 20000 in
theorem c_X11_port {l : Launch} (N : Nat) (A : hP) (x0 : Option Nat) (res : Int32 × hP) (h : f_X11_port N A x0 = some res) : Ct l mX11_port 9 4 8 A [va_rf x0] (gi res) := Ct.of (lv := [(0, va_rf x0)]) (ls := [some (va_rf x0)]) (by decide) (by simp [lv_args, g_cat_rf, cat_i, cat_l]) rfl (by simp [g_cat_rf, cat_i, cat_l]) (fun G => (t_X11_port_0 N A 0 0 x0 res h))
abbrev mX11_fault : gM := gMk yX11_fault cX11_fault 1 (some .int)
def f_X11_fault_0 (N : Nat) (A : hP) (x0 : Option Nat) : Option (Int32 × hP) := (oI A x0 10 7).bind fun v1 => some (v1, A)
set_option maxRecDepth 20000 in
set_option maxHeartbeats 4000000 in
theorem t_X11_fault_0 {l : Launch} {G : gS} (N : Nat) (A : hP) (x0 : Option Nat) (res : Int32 × hP) (h : f_X11_fault_0 N A x0 = some res) : AW l mX11_fault (g_rm 0 0 0) G (g_Qf G (gi res) 0 0) A 0 0 0 [some (va_rf x0)] [] := by
  unfold f_X11_fault_0 at h
  refine AW_aload_n dX11_fault_0 rfl ?_
  refine AW_getI (ci := 10) (k0 := 7) (C := RX11) (T := TX11) (N := 9) dX11_fault_1 rfl (gT_u tU_X11) (by decide) (List.mem_cons_of_mem _ tF_X11_110) h (fun v1 _ h => ?_)
  exact AW_iret dX11_fault_4 rfl ⟨Nat.zero_le _, Nat.zero_le _⟩ h
def f_X11_fault (N : Nat) (A : hP) (x0 : Option Nat) : Option (Int32 × hP) := f_X11_fault_0 N A x0
set_option maxRecDepth 20000 in
theorem c_X11_fault {l : Launch} (N : Nat) (A : hP) (x0 : Option Nat) (res : Int32 × hP) (h : f_X11_fault N A x0 = some res) : Ct l mX11_fault 0 0 0 A [va_rf x0] (gi res) := Ct.of (lv := [(0, va_rf x0)]) (ls := [some (va_rf x0)]) (by decide) (by simp [lv_args, g_cat_rf, cat_i, cat_l]) rfl (by simp [g_cat_rf, cat_i, cat_l]) (fun G => (t_X11_fault_0 N A x0 res h))
abbrev mX11_day : gM := gMk yX11_day cX11_day 2 (some .int)
def f_X11_day_0 (N : Nat) (A : hP) (x0 : Option Nat) (x1 : Int32) : Option (Int32 × hP) := (oR A x0 10 2).bind fun v1 => (oI A v1 2 0).bind fun v2 => if v2 = (0) then (some ((-1000002 : Int32), A)) else ((oR A x0 10 2).bind fun v3 => (oCk A v3 2).bind fun _ => (f_X2_canLay N A v3 x1).bind fun q4 => if q4.1 = (0) then (some ((-1000001 : Int32), q4.2)) else ((oR q4.2 x0 10 2).bind fun v5 => (oI q4.2 v5 2 5).bind fun v6 => if v6 < (24 : Int32) then ((oR q4.2 x0 10 2).bind fun v7 => (oCk q4.2 v7 2).bind fun _ => (f_X2_addDay N q4.2 v7 x1).bind fun q8 => (oR q8.2 x0 10 5).bind fun v9 => (oCk q8.2 v9 9).bind fun _ => (f_X10_forget N q8.2 v9).bind fun q10 => (oR q10.2 x0 10 2).bind fun v11 => (oR q10.2 x0 10 2).bind fun v12 => (oI q10.2 v12 2 5).bind fun v13 => (oCk q10.2 v11 2).bind fun _ => (f_X2_shownOn N q10.2 v11 (v13 - (1 : Int32))).bind fun q14 => some (q14.1, q14.2)) else (some ((-1000003 : Int32), q4.2))))
set_option maxRecDepth 20000 in
set_option maxHeartbeats 4000000 in
theorem t_X11_day_0 {l : Launch} {G : gS} (N : Nat) (A : hP) (x0 : Option Nat) (x1 : Int32) (res : Int32 × hP) (h : f_X11_day_0 N A x0 x1 = some res) : AW l mX11_day (g_rm 4 0 0) G (g_Qf G (gi res) 0 0) A 0 0 0 [some (va_rf x0), some (.int x1)] [] := by
  unfold f_X11_day_0 at h
  refine AW_aload_n dX11_day_0 rfl ?_
  refine AW_getR (ci := 10) (k0 := 2) (C := RX11) (T := TX11) (N := 9) dX11_day_1 rfl (gT_u tU_X11) (by decide) (List.mem_cons_of_mem _ tF_X11_25) h (fun v1 _ h => ?_)
  refine AW_getI (ci := 2) (k0 := 0) (C := RX2) (T := TX2) (N := 11) dX11_day_4 rfl (gT_u tU_X2) (by decide) (List.mem_cons_of_mem _ tF_X11_130) h (fun v2 _ h => ?_)
  refine AW_if_ne (tgt := 13) dX11_day_7 (by decide) h (fun _ h => ?_) (fun _ h => ?_)
  · refine AW_aload_n dX11_day_13 rfl ?_
    refine AW_getR (ci := 10) (k0 := 2) (C := RX11) (T := TX11) (N := 9) dX11_day_14 rfl (gT_u tU_X11) (by decide) (List.mem_cons_of_mem _ tF_X11_25) h (fun v3 _ h => ?_)
    refine AW_iload_n dX11_day_17 rfl ?_
    refine AW_callVi (y := yX2_canLay) (cc := cX2_canLay) (n := 2) (d := 1) (mc := 0) (ms := 0) (np := 1) (ret := (some .boolean)) (As := [.int x1]) (st := []) (ci := 2) dX11_day_18 gT_s rfl tM_X11_132 tI_X2_canLay tSel_X2_X2_X2_canLay tIni_X2 tY_X2_canLay (by decide +kernel) ⟨by decide, by decide⟩ ⟨by decide, by decide⟩ (Nat.le_of_ble_eq_true rfl) rfl h (fun q hq => c_X2_canLay N _ _ _ q hq) (fun q4 _ h => ?_)
    refine AW_if_ne (tgt := 27) dX11_day_21 (by decide) h (fun _ h => ?_) (fun _ h => ?_)
    · refine AW_aload_n dX11_day_27 rfl ?_
      refine AW_getR (ci := 10) (k0 := 2) (C := RX11) (T := TX11) (N := 9) dX11_day_28 rfl (gT_u tU_X11) (by decide) (List.mem_cons_of_mem _ tF_X11_25) h (fun v5 _ h => ?_)
      refine AW_getI (ci := 2) (k0 := 5) (C := RX2) (T := TX2) (N := 11) dX11_day_31 rfl (gT_u tU_X2) (by decide) (List.mem_cons_of_mem _ tF_X11_127) h (fun v6 _ h => ?_)
      refine AW_bipush (v := 24) dX11_day_34 (by decide) ?_
      refine AW_icmp_lt (tgt := 42) dX11_day_36 (by decide) h (fun _ h => ?_) (fun _ h => ?_)
      · refine AW_aload_n dX11_day_42 rfl ?_
        refine AW_getR (ci := 10) (k0 := 2) (C := RX11) (T := TX11) (N := 9) dX11_day_43 rfl (gT_u tU_X11) (by decide) (List.mem_cons_of_mem _ tF_X11_25) h (fun v7 _ h => ?_)
        refine AW_iload_n dX11_day_46 rfl ?_
        refine AW_callVu (y := yX2_addDay) (cc := cX2_addDay) (n := 2) (d := 0) (mc := 0) (ms := 0) (np := 1) (ret := none) (As := [.int x1]) (st := []) (ci := 2) dX11_day_47 gT_s rfl tM_X11_135 tI_X2_addDay tSel_X2_X2_X2_addDay tIni_X2 tY_X2_addDay (by decide +kernel) ⟨by decide, by decide⟩ ⟨by decide, by decide⟩ (Nat.le_of_ble_eq_true rfl) rfl h (fun q hq => c_X2_addDay N _ _ _ q hq) (fun q8 _ h => ?_)
        refine AW_aload_n dX11_day_50 rfl ?_
        refine AW_getR (ci := 10) (k0 := 5) (C := RX11) (T := TX11) (N := 9) dX11_day_51 rfl (gT_u tU_X11) (by decide) (List.mem_cons_of_mem _ tF_X11_39) h (fun v9 _ h => ?_)
        refine AW_callVu (y := yX10_forget) (cc := cX10_forget) (n := 1) (d := 0) (mc := 0) (ms := 0) (np := 0) (ret := none) (As := []) (st := []) (ci := 9) dX11_day_54 gT_s rfl tM_X11_124 tI_X10_forget tSel_X10_X10_X10_forget tIni_X10 tY_X10_forget (by decide +kernel) ⟨by decide, by decide⟩ ⟨by decide, by decide⟩ (Nat.le_of_ble_eq_true rfl) rfl h (fun q hq => c_X10_forget N _ _ q hq) (fun q10 _ h => ?_)
        refine AW_aload_n dX11_day_57 rfl ?_
        refine AW_getR (ci := 10) (k0 := 2) (C := RX11) (T := TX11) (N := 9) dX11_day_58 rfl (gT_u tU_X11) (by decide) (List.mem_cons_of_mem _ tF_X11_25) h (fun v11 _ h => ?_)
        refine AW_aload_n dX11_day_61 rfl ?_
        refine AW_getR (ci := 10) (k0 := 2) (C := RX11) (T := TX11) (N := 9) dX11_day_62 rfl (gT_u tU_X11) (by decide) (List.mem_cons_of_mem _ tF_X11_25) h (fun v12 _ h => ?_)
        refine AW_getI (ci := 2) (k0 := 5) (C := RX2) (T := TX2) (N := 11) dX11_day_65 rfl (gT_u tU_X2) (by decide) (List.mem_cons_of_mem _ tF_X11_127) h (fun v13 _ h => ?_)
        refine AW_iconst (v := 1) dX11_day_68 (by decide) ?_
        refine AW_isub dX11_day_69 ?_
        refine AW_callVi (y := yX2_shownOn) (cc := cX2_shownOn) (n := 2) (d := 3) (mc := 0) (ms := 0) (np := 1) (ret := (some .int)) (As := [.int (v13 - (1 : Int32))]) (st := []) (ci := 2) dX11_day_70 gT_s rfl tM_X11_139 tI_X2_shownOn tSel_X2_X2_X2_shownOn tIni_X2 tY_X2_shownOn (by decide +kernel) ⟨by decide, by decide⟩ ⟨by decide, by decide⟩ (Nat.le_of_ble_eq_true rfl) rfl h (fun q hq => c_X2_shownOn N _ _ _ q hq) (fun q14 _ h => ?_)
        exact AW_iret dX11_day_73 rfl ⟨Nat.zero_le _, Nat.zero_le _⟩ h
      · refine AW_ldc (v := -1000003) dX11_day_39 (List.mem_cons_of_mem _ tK_X11_102) ?_
        exact AW_iret dX11_day_41 rfl ⟨Nat.zero_le _, Nat.zero_le _⟩ h
    · refine AW_ldc (v := -1000001) dX11_day_24 (List.mem_cons_of_mem _ tK_X11_55) ?_
      exact AW_iret dX11_day_26 rfl ⟨Nat.zero_le _, Nat.zero_le _⟩ h
  · refine AW_ldc (v := -1000002) dX11_day_10 (List.mem_cons_of_mem _ tK_X11_131) ?_
    exact AW_iret dX11_day_12 rfl ⟨Nat.zero_le _, Nat.zero_le _⟩ h
def f_X11_day (N : Nat) (A : hP) (x0 : Option Nat) (x1 : Int32) : Option (Int32 × hP) := f_X11_day_0 N A x0 x1
set_option maxRecDepth 20000 in
theorem c_X11_day {l : Launch} (N : Nat) (A : hP) (x0 : Option Nat) (x1 : Int32) (res : Int32 × hP) (h : f_X11_day N A x0 x1 = some res) : Ct l mX11_day 4 0 0 A [va_rf x0, .int x1] (gi res) := Ct.of (lv := [(0, va_rf x0), (1, .int x1)]) (ls := [some (va_rf x0), some (.int x1)]) (by decide) (by simp [lv_args, g_cat_rf, cat_i, cat_l]) rfl (by simp [g_cat_rf, cat_i, cat_l]) (fun G => (t_X11_day_0 N A x0 x1 res h))
abbrev mX11_undo : gM := gMk yX11_undo cX11_undo 1 (some .int)
def f_X11_undo_0 (N : Nat) (A : hP) (x0 : Option Nat) : Option (Int32 × hP) := (oR A x0 10 2).bind fun v1 => (oI A v1 2 5).bind fun v2 => if (0) < v2 then ((oR A x0 10 2).bind fun v3 => (oI A v3 2 5).bind fun v4 => (oP A v3 2 5 (.int (v4 - (1 : Int32)))).bind fun A5 => (oR A5 x0 10 5).bind fun v6 => (oCk A5 v6 9).bind fun _ => (f_X10_forget N A5 v6).bind fun q7 => (oR q7.2 x0 10 2).bind fun v8 => (oI q7.2 v8 2 5).bind fun v9 => some (v9, q7.2)) else (some ((-1000002 : Int32), A))
set_option maxRecDepth 20000 in
set_option maxHeartbeats 4000000 in
theorem t_X11_undo_0 {l : Launch} {G : gS} (N : Nat) (A : hP) (x0 : Option Nat) (res : Int32 × hP) (h : f_X11_undo_0 N A x0 = some res) : AW l mX11_undo (g_rm 1 0 0) G (g_Qf G (gi res) 0 0) A 0 0 0 [some (va_rf x0)] [] := by
  unfold f_X11_undo_0 at h
  refine AW_aload_n dX11_undo_0 rfl ?_
  refine AW_getR (ci := 10) (k0 := 2) (C := RX11) (T := TX11) (N := 9) dX11_undo_1 rfl (gT_u tU_X11) (by decide) (List.mem_cons_of_mem _ tF_X11_25) h (fun v1 _ h => ?_)
  refine AW_getI (ci := 2) (k0 := 5) (C := RX2) (T := TX2) (N := 11) dX11_undo_4 rfl (gT_u tU_X2) (by decide) (List.mem_cons_of_mem _ tF_X11_127) h (fun v2 _ h => ?_)
  refine AW_if_gt (tgt := 13) dX11_undo_7 (by decide) h (fun _ h => ?_) (fun _ h => ?_)
  · refine AW_aload_n dX11_undo_13 rfl ?_
    refine AW_getR (ci := 10) (k0 := 2) (C := RX11) (T := TX11) (N := 9) dX11_undo_14 rfl (gT_u tU_X11) (by decide) (List.mem_cons_of_mem _ tF_X11_25) h (fun v3 _ h => ?_)
    refine AW_dup dX11_undo_17 (g_cat_rf _) ?_
    refine AW_getI (ci := 2) (k0 := 5) (C := RX2) (T := TX2) (N := 11) dX11_undo_18 rfl (gT_u tU_X2) (by decide) (List.mem_cons_of_mem _ tF_X11_127) h (fun v4 _ h => ?_)
    refine AW_iconst (v := 1) dX11_undo_21 (by decide) ?_
    refine AW_isub dX11_undo_22 ?_
    refine AW_put (ci := 2) (k0 := 5) (C := RX2) (T := TX2) (N := 11) (ty0 := tyX2) dX11_undo_23 rfl (gT_u tU_X2) tyX2_ok nmX2 (by decide) (List.mem_cons_of_mem _ tF_X11_127) (Or.inl rfl) rfl rfl h (fun A5 _ h => ?_)
    refine AW_aload_n dX11_undo_26 rfl ?_
    refine AW_getR (ci := 10) (k0 := 5) (C := RX11) (T := TX11) (N := 9) dX11_undo_27 rfl (gT_u tU_X11) (by decide) (List.mem_cons_of_mem _ tF_X11_39) h (fun v6 _ h => ?_)
    refine AW_callVu (y := yX10_forget) (cc := cX10_forget) (n := 1) (d := 0) (mc := 0) (ms := 0) (np := 0) (ret := none) (As := []) (st := []) (ci := 9) dX11_undo_30 gT_s rfl tM_X11_124 tI_X10_forget tSel_X10_X10_X10_forget tIni_X10 tY_X10_forget (by decide +kernel) ⟨by decide, by decide⟩ ⟨by decide, by decide⟩ (Nat.le_of_ble_eq_true rfl) rfl h (fun q hq => c_X10_forget N _ _ q hq) (fun q7 _ h => ?_)
    refine AW_aload_n dX11_undo_33 rfl ?_
    refine AW_getR (ci := 10) (k0 := 2) (C := RX11) (T := TX11) (N := 9) dX11_undo_34 rfl (gT_u tU_X11) (by decide) (List.mem_cons_of_mem _ tF_X11_25) h (fun v8 _ h => ?_)
    refine AW_getI (ci := 2) (k0 := 5) (C := RX2) (T := TX2) (N := 11) dX11_undo_37 rfl (gT_u tU_X2) (by decide) (List.mem_cons_of_mem _ tF_X11_127) h (fun v9 _ h => ?_)
    exact AW_iret dX11_undo_40 rfl ⟨Nat.zero_le _, Nat.zero_le _⟩ h
  · refine AW_ldc (v := -1000002) dX11_undo_10 (List.mem_cons_of_mem _ tK_X11_131) ?_
    exact AW_iret dX11_undo_12 rfl ⟨Nat.zero_le _, Nat.zero_le _⟩ h
def f_X11_undo (N : Nat) (A : hP) (x0 : Option Nat) : Option (Int32 × hP) := f_X11_undo_0 N A x0
set_option maxRecDepth 20000 in
theorem c_X11_undo {l : Launch} (N : Nat) (A : hP) (x0 : Option Nat) (res : Int32 × hP) (h : f_X11_undo N A x0 = some res) : Ct l mX11_undo 1 0 0 A [va_rf x0] (gi res) := Ct.of (lv := [(0, va_rf x0)]) (ls := [some (va_rf x0)]) (by decide) (by simp [lv_args, g_cat_rf, cat_i, cat_l]) rfl (by simp [g_cat_rf, cat_i, cat_l]) (fun G => (t_X11_undo_0 N A x0 res h))
abbrev mX11_shown : gM := gMk yX11_shown cX11_shown 3 (some .int)
def f_X11_shown_88 (N : Nat) (A : hP) (s0 : Int32) : Option (Int32 × hP) := some (s0, A)
set_option maxRecDepth 20000 in
set_option maxHeartbeats 4000000 in
theorem t_X11_shown_88 {l : Launch} {G : gS} (N : Nat) (A : hP) (s0 : Int32) (res : Int32 × hP) (h : f_X11_shown_88 N A s0 = some res) : AW l mX11_shown (g_rm 4 0 0) G (g_Qf G (gi res) 0 0) A 0 0 88 [none, none, none] [.int s0] := by
  unfold f_X11_shown_88 at h
  exact AW_iret dX11_shown_88 rfl ⟨Nat.zero_le _, Nat.zero_le _⟩ h
def f_X11_shown_0 (N : Nat) (A : hP) (x0 : Option Nat) (x1 : Int32) (x2 : Int32) : Option (Int32 × hP) := (oR A x0 10 2).bind fun v1 => (oCk A v1 2).bind fun _ => (f_X2_hasDay N A v1 x1).bind fun q2 => if q2.1 = (0) then (some ((-1000001 : Int32), q2.2)) else (if x2 = (0 : Int32) then ((oR q2.2 x0 10 2).bind fun v3 => (oR q2.2 v3 2 10).bind fun v4 => (oA q2.2 v4 0 x1).bind fun v5 => some (v5, q2.2)) else (if x2 = (1 : Int32) then ((oR q2.2 x0 10 2).bind fun v6 => (oCk q2.2 v6 2).bind fun _ => (f_X2_loadOn N q2.2 v6 x1).bind fun q7 => some (q7.1, q7.2)) else (if x2 = (2 : Int32) then ((oR q2.2 x0 10 2).bind fun v8 => (oCk q2.2 v8 2).bind fun _ => (f_X2_shownOn N q2.2 v8 x1).bind fun q9 => some (q9.1, q9.2)) else (if x2 = (3 : Int32) then ((oR q2.2 x0 10 2).bind fun v10 => (oCk q2.2 v10 2).bind fun _ => (f_X2_isFresh N q2.2 v10 x1).bind fun q11 => if q11.1 = (0) then (f_X11_shown_88 N q11.2 (0 : Int32)) else (f_X11_shown_88 N q11.2 (1 : Int32))) else (some ((-1000001 : Int32), q2.2))))))
set_option maxRecDepth 20000 in
set_option maxHeartbeats 4000000 in
theorem t_X11_shown_0 {l : Launch} {G : gS} (N : Nat) (A : hP) (x0 : Option Nat) (x1 : Int32) (x2 : Int32) (res : Int32 × hP) (h : f_X11_shown_0 N A x0 x1 x2 = some res) : AW l mX11_shown (g_rm 4 0 0) G (g_Qf G (gi res) 0 0) A 0 0 0 [some (va_rf x0), some (.int x1), some (.int x2)] [] := by
  unfold f_X11_shown_0 at h
  refine AW_aload_n dX11_shown_0 rfl ?_
  refine AW_getR (ci := 10) (k0 := 2) (C := RX11) (T := TX11) (N := 9) dX11_shown_1 rfl (gT_u tU_X11) (by decide) (List.mem_cons_of_mem _ tF_X11_25) h (fun v1 _ h => ?_)
  refine AW_iload_n dX11_shown_4 rfl ?_
  refine AW_callVi (y := yX2_hasDay) (cc := cX2_hasDay) (n := 2) (d := 0) (mc := 0) (ms := 0) (np := 1) (ret := (some .boolean)) (As := [.int x1]) (st := []) (ci := 2) dX11_shown_5 gT_s rfl tM_X11_142 tI_X2_hasDay tSel_X2_X2_X2_hasDay tIni_X2 tY_X2_hasDay (by decide +kernel) ⟨by decide, by decide⟩ ⟨by decide, by decide⟩ (Nat.le_of_ble_eq_true rfl) rfl h (fun q hq => c_X2_hasDay N _ _ _ q hq) (fun q2 _ h => ?_)
  refine AW_if_ne (tgt := 14) dX11_shown_8 (by decide) h (fun _ h => ?_) (fun _ h => ?_)
  · refine AW_iload_n dX11_shown_14 rfl ?_
    refine AW_case h (fun e15_0 h => ?_) (fun e15_0 h => ?_)
    · refine AW_tabIn (c := 0) (off := 29) (tgt := 44) dX11_shown_15 e15_0 (by decide) (by decide) (by decide) (by decide) ?_
      refine AW_aload_n dX11_shown_44 rfl ?_
      refine AW_getR (ci := 10) (k0 := 2) (C := RX11) (T := TX11) (N := 9) dX11_shown_45 rfl (gT_u tU_X11) (by decide) (List.mem_cons_of_mem _ tF_X11_25) h (fun v3 _ h => ?_)
      refine AW_getR (ci := 2) (k0 := 10) (C := RX2) (T := TX2) (N := 11) dX11_shown_48 rfl (gT_u tU_X2) (by decide) (List.mem_cons_of_mem _ tF_X11_145) h (fun v4 _ h => ?_)
      refine AW_iload_n dX11_shown_51 rfl ?_
      refine AW_iald dX11_shown_52 h (fun v5 _ h => ?_)
      exact AW_iret dX11_shown_53 rfl ⟨Nat.zero_le _, Nat.zero_le _⟩ h
    refine AW_case h (fun e15_1 h => ?_) (fun e15_1 h => ?_)
    · refine AW_tabIn (c := 1) (off := 39) (tgt := 54) dX11_shown_15 e15_1 (by decide) (by decide) (by decide) (by decide) ?_
      refine AW_aload_n dX11_shown_54 rfl ?_
      refine AW_getR (ci := 10) (k0 := 2) (C := RX11) (T := TX11) (N := 9) dX11_shown_55 rfl (gT_u tU_X11) (by decide) (List.mem_cons_of_mem _ tF_X11_25) h (fun v6 _ h => ?_)
      refine AW_iload_n dX11_shown_58 rfl ?_
      refine AW_callVi (y := yX2_loadOn) (cc := cX2_loadOn) (n := 5) (d := 1) (mc := 0) (ms := 0) (np := 1) (ret := (some .int)) (As := [.int x1]) (st := []) (ci := 2) dX11_shown_59 gT_s rfl tM_X11_148 tI_X2_loadOn tSel_X2_X2_X2_loadOn tIni_X2 tY_X2_loadOn (by decide +kernel) ⟨by decide, by decide⟩ ⟨by decide, by decide⟩ (Nat.le_of_ble_eq_true rfl) rfl h (fun q hq => c_X2_loadOn N _ _ _ q hq) (fun q7 _ h => ?_)
      exact AW_iret dX11_shown_62 rfl ⟨Nat.zero_le _, Nat.zero_le _⟩ h
    refine AW_case h (fun e15_2 h => ?_) (fun e15_2 h => ?_)
    · refine AW_tabIn (c := 2) (off := 48) (tgt := 63) dX11_shown_15 e15_2 (by decide) (by decide) (by decide) (by decide) ?_
      refine AW_aload_n dX11_shown_63 rfl ?_
      refine AW_getR (ci := 10) (k0 := 2) (C := RX11) (T := TX11) (N := 9) dX11_shown_64 rfl (gT_u tU_X11) (by decide) (List.mem_cons_of_mem _ tF_X11_25) h (fun v8 _ h => ?_)
      refine AW_iload_n dX11_shown_67 rfl ?_
      refine AW_callVi (y := yX2_shownOn) (cc := cX2_shownOn) (n := 2) (d := 3) (mc := 0) (ms := 0) (np := 1) (ret := (some .int)) (As := [.int x1]) (st := []) (ci := 2) dX11_shown_68 gT_s rfl tM_X11_139 tI_X2_shownOn tSel_X2_X2_X2_shownOn tIni_X2 tY_X2_shownOn (by decide +kernel) ⟨by decide, by decide⟩ ⟨by decide, by decide⟩ (Nat.le_of_ble_eq_true rfl) rfl h (fun q hq => c_X2_shownOn N _ _ _ q hq) (fun q9 _ h => ?_)
      exact AW_iret dX11_shown_71 rfl ⟨Nat.zero_le _, Nat.zero_le _⟩ h
    refine AW_case h (fun e15_3 h => ?_) (fun e15_3 h => ?_)
    · refine AW_tabIn (c := 3) (off := 57) (tgt := 72) dX11_shown_15 e15_3 (by decide) (by decide) (by decide) (by decide) ?_
      refine AW_aload_n dX11_shown_72 rfl ?_
      refine AW_getR (ci := 10) (k0 := 2) (C := RX11) (T := TX11) (N := 9) dX11_shown_73 rfl (gT_u tU_X11) (by decide) (List.mem_cons_of_mem _ tF_X11_25) h (fun v10 _ h => ?_)
      refine AW_iload_n dX11_shown_76 rfl ?_
      refine AW_callVi (y := yX2_isFresh) (cc := cX2_isFresh) (n := 2) (d := 0) (mc := 0) (ms := 0) (np := 1) (ret := (some .boolean)) (As := [.int x1]) (st := []) (ci := 2) dX11_shown_77 gT_s rfl tM_X11_151 tI_X2_isFresh tSel_X2_X2_X2_isFresh tIni_X2 tY_X2_isFresh (by decide +kernel) ⟨by decide, by decide⟩ ⟨by decide, by decide⟩ (Nat.le_of_ble_eq_true rfl) rfl h (fun q hq => c_X2_isFresh N _ _ _ q hq) (fun q11 _ h => ?_)
      refine AW_if_eq (tgt := 87) dX11_shown_80 (by decide) h (fun _ h => ?_) (fun _ h => ?_)
      · refine AW_iconst (v := 0) dX11_shown_87 (by decide) ?_
        exact AW_fewer (fw_d (fw_d (fw_d fw_n))) (t_X11_shown_88 N _ _ _ h)
      · refine AW_iconst (v := 1) dX11_shown_83 (by decide) ?_
        refine AW_goto (tgt := 88) dX11_shown_84 (by decide) ?_
        exact AW_fewer (fw_d (fw_d (fw_d fw_n))) (t_X11_shown_88 N _ _ _ h)
    refine AW_tabOut (tgt := 89) dX11_shown_15 (by have a0 := i32_ne e15_0; have b0 : (0 : Int32).toInt = 0 := (by decide); have a1 := i32_ne e15_1; have b1 : (1 : Int32).toInt = 1 := (by decide); have a2 := i32_ne e15_2; have b2 : (2 : Int32).toInt = 2 := (by decide); have a3 := i32_ne e15_3; have b3 : (3 : Int32).toInt = 3 := (by decide); omega) (by decide) ?_
    refine AW_ldc (v := -1000001) dX11_shown_89 (List.mem_cons_of_mem _ tK_X11_55) ?_
    exact AW_iret dX11_shown_91 rfl ⟨Nat.zero_le _, Nat.zero_le _⟩ h
  · refine AW_ldc (v := -1000001) dX11_shown_11 (List.mem_cons_of_mem _ tK_X11_55) ?_
    exact AW_iret dX11_shown_13 rfl ⟨Nat.zero_le _, Nat.zero_le _⟩ h
def f_X11_shown (N : Nat) (A : hP) (x0 : Option Nat) (x1 : Int32) (x2 : Int32) : Option (Int32 × hP) := f_X11_shown_0 N A x0 x1 x2
set_option maxRecDepth 20000 in
theorem c_X11_shown {l : Launch} (N : Nat) (A : hP) (x0 : Option Nat) (x1 : Int32) (x2 : Int32) (res : Int32 × hP) (h : f_X11_shown N A x0 x1 x2 = some res) : Ct l mX11_shown 4 0 0 A [va_rf x0, .int x1, .int x2] (gi res) := Ct.of (lv := [(0, va_rf x0), (1, .int x1), (2, .int x2)]) (ls := [some (va_rf x0), some (.int x1), some (.int x2)]) (by decide) (by simp [lv_args, g_cat_rf, cat_i, cat_l]) rfl (by simp [g_cat_rf, cat_i, cat_l]) (fun G => (t_X11_shown_0 N A x0 x1 x2 res h))
abbrev mX11_heavy : gM := gMk yX11_heavy cX11_heavy 4 (some .int)
def f_X11_heavy_24 (N : Nat) (A : hP) : Option (Int32 × hP) := some ((-1000001 : Int32), A)
set_option maxRecDepth 20000 in
set_option maxHeartbeats 4000000 in
theorem t_X11_heavy_24 {l : Launch} {G : gS} (N : Nat) (A : hP) (res : Int32 × hP) (h : f_X11_heavy_24 N A  = some res) : AW l mX11_heavy (g_rm 1 0 0) G (g_Qf G (gi res) 0 0) A 0 0 24 [none, none, none, none] [] := by
  unfold f_X11_heavy_24 at h
  refine AW_ldc (v := -1000001) dX11_heavy_24 (List.mem_cons_of_mem _ tK_X11_55) ?_
  exact AW_iret dX11_heavy_26 rfl ⟨Nat.zero_le _, Nat.zero_le _⟩ h
def f_X11_heavy_47 (N : Nat) (A : hP) (s0 : Int32) : Option (Int32 × hP) := some (s0, A)
set_option maxRecDepth 20000 in
set_option maxHeartbeats 4000000 in
theorem t_X11_heavy_47 {l : Launch} {G : gS} (N : Nat) (A : hP) (s0 : Int32) (res : Int32 × hP) (h : f_X11_heavy_47 N A s0 = some res) : AW l mX11_heavy (g_rm 1 0 0) G (g_Qf G (gi res) 0 0) A 0 0 47 [none, none, none, none] [.int s0] := by
  unfold f_X11_heavy_47 at h
  exact AW_iret dX11_heavy_47 rfl ⟨Nat.zero_le _, Nat.zero_le _⟩ h
def f_X11_heavy_0 (N : Nat) (A : hP) (x0 : Option Nat) (x1 : Int32) (x2 : Int32) : Option (Int32 × hP) := (oR A x0 10 2).bind fun v1 => (oCk A v1 2).bind fun _ => (f_X2_thingAt N A v1 x1).bind fun q2 => if q2.1 = none then (f_X11_heavy_24 N q2.2) else (if x2 < (-1 : Int32) then (f_X11_heavy_24 N q2.2) else (if x2 ≤ (99 : Int32) then (if (0) ≤ x2 then ((oT q2.2 q2.1 1).bind fun v3 => (v_X7_heavyWith N q2.2 q2.1 v3 x2).bind fun q4 => f_X11_heavy_47 N q4.2 q4.1) else ((oT q2.2 q2.1 1).bind fun v5 => f_X11_heavy_47 N q2.2 v5)) else (f_X11_heavy_24 N q2.2)))
set_option maxRecDepth 20000 in
set_option maxHeartbeats 4000000 in
theorem t_X11_heavy_0 {l : Launch} {G : gS} (N : Nat) (A : hP) (x0 : Option Nat) (x1 : Int32) (x2 : Int32) (res : Int32 × hP) (h : f_X11_heavy_0 N A x0 x1 x2 = some res) : AW l mX11_heavy (g_rm 1 0 0) G (g_Qf G (gi res) 0 0) A 0 0 0 [some (va_rf x0), some (.int x1), some (.int x2), none] [] := by
  unfold f_X11_heavy_0 at h
  refine AW_aload_n dX11_heavy_0 rfl ?_
  refine AW_getR (ci := 10) (k0 := 2) (C := RX11) (T := TX11) (N := 9) dX11_heavy_1 rfl (gT_u tU_X11) (by decide) (List.mem_cons_of_mem _ tF_X11_25) h (fun v1 _ h => ?_)
  refine AW_iload_n dX11_heavy_4 rfl ?_
  refine AW_callVr (y := yX2_thingAt) (cc := cX2_thingAt) (n := 2) (d := 0) (mc := 0) (ms := 0) (np := 1) (ret := (some (.object "YesterdayScale$Thing"))) (As := [.int x1]) (st := []) (ci := 2) dX11_heavy_5 gT_s rfl tM_X11_154 tI_X2_thingAt tSel_X2_X2_X2_thingAt tIni_X2 tY_X2_thingAt (by decide +kernel) ⟨by decide, by decide⟩ ⟨by decide, by decide⟩ (Nat.le_of_ble_eq_true rfl) rfl h (fun q hq => c_X2_thingAt N _ _ _ q hq) (fun q2 _ h => ?_)
  refine AW_astore_n (ls' := [some (va_rf x0), some (.int x1), some (.int x2), some (va_rf q2.1)]) dX11_heavy_8 (c1_i rfl) (by decide) rfl ?_
  refine AW_aload_n dX11_heavy_9 rfl ?_
  refine AW_ifnull (tgt := 24) dX11_heavy_10 (by decide) h (fun _ h => ?_) (fun _ h => ?_)
  · exact AW_fewer (fw_d (fw_d (fw_d (fw_d fw_n)))) (t_X11_heavy_24 N _ _ h)
  · refine AW_iload_n dX11_heavy_13 rfl ?_
    refine AW_iconst (v := -1) dX11_heavy_14 (by decide) ?_
    refine AW_icmp_lt (tgt := 24) dX11_heavy_15 (by decide) h (fun _ h => ?_) (fun _ h => ?_)
    · exact AW_fewer (fw_d (fw_d (fw_d (fw_d fw_n)))) (t_X11_heavy_24 N _ _ h)
    · refine AW_iload_n dX11_heavy_18 rfl ?_
      refine AW_bipush (v := 99) dX11_heavy_19 (by decide) ?_
      refine AW_icmp_le (tgt := 27) dX11_heavy_21 (by decide) h (fun _ h => ?_) (fun _ h => ?_)
      · refine AW_iload_n dX11_heavy_27 rfl ?_
        refine AW_if_ge (tgt := 38) dX11_heavy_28 (by decide) h (fun _ h => ?_) (fun _ h => ?_)
        · refine AW_aload_n dX11_heavy_38 rfl ?_
          refine AW_aload_n dX11_heavy_39 rfl ?_
          refine AW_getT (nm := "weight") (by decide) gT_s dX11_heavy_40 (List.mem_cons_of_mem _ tF_X11_158) h (fun v3 _ h => ?_)
          refine AW_iload_n dX11_heavy_43 rfl ?_
          refine AW_v_X7_heavyWith N dX11_heavy_44 gT_s tM_X11_163 (by decide) (by decide) (Nat.le_of_ble_eq_true rfl) h (fun q4 h => ?_)
          exact AW_fewer (fw_d (fw_d (fw_d (fw_d fw_n)))) (t_X11_heavy_47 N _ _ _ h)
        · refine AW_aload_n dX11_heavy_31 rfl ?_
          refine AW_getT (nm := "weight") (by decide) gT_s dX11_heavy_32 (List.mem_cons_of_mem _ tF_X11_158) h (fun v5 _ h => ?_)
          refine AW_goto (tgt := 47) dX11_heavy_35 (by decide) ?_
          exact AW_fewer (fw_d (fw_d (fw_d (fw_d fw_n)))) (t_X11_heavy_47 N _ _ _ h)
      · exact AW_fewer (fw_d (fw_d (fw_d (fw_d fw_n)))) (t_X11_heavy_24 N _ _ h)
def f_X11_heavy (N : Nat) (A : hP) (x0 : Option Nat) (x1 : Int32) (x2 : Int32) : Option (Int32 × hP) := f_X11_heavy_0 N A x0 x1 x2
set_option maxRecDepth 20000 in
theorem c_X11_heavy {l : Launch} (N : Nat) (A : hP) (x0 : Option Nat) (x1 : Int32) (x2 : Int32) (res : Int32 × hP) (h : f_X11_heavy N A x0 x1 x2 = some res) : Ct l mX11_heavy 1 0 0 A [va_rf x0, .int x1, .int x2] (gi res) := Ct.of (lv := [(0, va_rf x0), (1, .int x1), (2, .int x2)]) (ls := [some (va_rf x0), some (.int x1), some (.int x2), none]) (by decide) (by simp [lv_args, g_cat_rf, cat_i, cat_l]) rfl (by simp [g_cat_rf, cat_i, cat_l]) (fun G => (t_X11_heavy_0 N A x0 x1 x2 res h))
abbrev mX11_next : gM := gMk yX11_next cX11_next 2 (some .int)
def f_X11_next_0 (N : Nat) (A : hP) (x0 : Option Nat) (x1 : Int32) : Option (Int32 × hP) := (oR A x0 10 2).bind fun v1 => (oI A v1 2 0).bind fun v2 => if v2 = (0) then (some ((-1000002 : Int32), A)) else ((oR A x0 10 2).bind fun v3 => (oCk A v3 2).bind fun _ => (f_X2_canLay N A v3 x1).bind fun q4 => if q4.1 = (0) then (some ((-1000001 : Int32), q4.2)) else ((oR q4.2 x0 10 2).bind fun v5 => (oR q4.2 v5 2 10).bind fun v6 => (oR q4.2 x0 10 2).bind fun v7 => (oI q4.2 v7 2 5).bind fun v8 => (oS q4.2 v6 0 v8 x1).bind fun A9 => (oR A9 x0 10 2).bind fun v10 => (oR A9 x0 10 2).bind fun v11 => (oI A9 v11 2 5).bind fun v12 => (oCk A9 v10 2).bind fun _ => (f_X2_shownOn N A9 v10 v12).bind fun q13 => some (q13.1, q13.2)))
set_option maxRecDepth 20000 in
set_option maxHeartbeats 4000000 in
theorem t_X11_next_0 {l : Launch} {G : gS} (N : Nat) (A : hP) (x0 : Option Nat) (x1 : Int32) (res : Int32 × hP) (h : f_X11_next_0 N A x0 x1 = some res) : AW l mX11_next (g_rm 4 0 0) G (g_Qf G (gi res) 0 0) A 0 0 0 [some (va_rf x0), some (.int x1)] [] := by
  unfold f_X11_next_0 at h
  refine AW_aload_n dX11_next_0 rfl ?_
  refine AW_getR (ci := 10) (k0 := 2) (C := RX11) (T := TX11) (N := 9) dX11_next_1 rfl (gT_u tU_X11) (by decide) (List.mem_cons_of_mem _ tF_X11_25) h (fun v1 _ h => ?_)
  refine AW_getI (ci := 2) (k0 := 0) (C := RX2) (T := TX2) (N := 11) dX11_next_4 rfl (gT_u tU_X2) (by decide) (List.mem_cons_of_mem _ tF_X11_130) h (fun v2 _ h => ?_)
  refine AW_if_ne (tgt := 13) dX11_next_7 (by decide) h (fun _ h => ?_) (fun _ h => ?_)
  · refine AW_aload_n dX11_next_13 rfl ?_
    refine AW_getR (ci := 10) (k0 := 2) (C := RX11) (T := TX11) (N := 9) dX11_next_14 rfl (gT_u tU_X11) (by decide) (List.mem_cons_of_mem _ tF_X11_25) h (fun v3 _ h => ?_)
    refine AW_iload_n dX11_next_17 rfl ?_
    refine AW_callVi (y := yX2_canLay) (cc := cX2_canLay) (n := 2) (d := 1) (mc := 0) (ms := 0) (np := 1) (ret := (some .boolean)) (As := [.int x1]) (st := []) (ci := 2) dX11_next_18 gT_s rfl tM_X11_132 tI_X2_canLay tSel_X2_X2_X2_canLay tIni_X2 tY_X2_canLay (by decide +kernel) ⟨by decide, by decide⟩ ⟨by decide, by decide⟩ (Nat.le_of_ble_eq_true rfl) rfl h (fun q hq => c_X2_canLay N _ _ _ q hq) (fun q4 _ h => ?_)
    refine AW_if_ne (tgt := 27) dX11_next_21 (by decide) h (fun _ h => ?_) (fun _ h => ?_)
    · refine AW_aload_n dX11_next_27 rfl ?_
      refine AW_getR (ci := 10) (k0 := 2) (C := RX11) (T := TX11) (N := 9) dX11_next_28 rfl (gT_u tU_X11) (by decide) (List.mem_cons_of_mem _ tF_X11_25) h (fun v5 _ h => ?_)
      refine AW_getR (ci := 2) (k0 := 10) (C := RX2) (T := TX2) (N := 11) dX11_next_31 rfl (gT_u tU_X2) (by decide) (List.mem_cons_of_mem _ tF_X11_145) h (fun v6 _ h => ?_)
      refine AW_aload_n dX11_next_34 rfl ?_
      refine AW_getR (ci := 10) (k0 := 2) (C := RX11) (T := TX11) (N := 9) dX11_next_35 rfl (gT_u tU_X11) (by decide) (List.mem_cons_of_mem _ tF_X11_25) h (fun v7 _ h => ?_)
      refine AW_getI (ci := 2) (k0 := 5) (C := RX2) (T := TX2) (N := 11) dX11_next_38 rfl (gT_u tU_X2) (by decide) (List.mem_cons_of_mem _ tF_X11_127) h (fun v8 _ h => ?_)
      refine AW_iload_n dX11_next_41 rfl ?_
      refine AW_iast dX11_next_42 h (fun A9 _ h => ?_)
      refine AW_aload_n dX11_next_43 rfl ?_
      refine AW_getR (ci := 10) (k0 := 2) (C := RX11) (T := TX11) (N := 9) dX11_next_44 rfl (gT_u tU_X11) (by decide) (List.mem_cons_of_mem _ tF_X11_25) h (fun v10 _ h => ?_)
      refine AW_aload_n dX11_next_47 rfl ?_
      refine AW_getR (ci := 10) (k0 := 2) (C := RX11) (T := TX11) (N := 9) dX11_next_48 rfl (gT_u tU_X11) (by decide) (List.mem_cons_of_mem _ tF_X11_25) h (fun v11 _ h => ?_)
      refine AW_getI (ci := 2) (k0 := 5) (C := RX2) (T := TX2) (N := 11) dX11_next_51 rfl (gT_u tU_X2) (by decide) (List.mem_cons_of_mem _ tF_X11_127) h (fun v12 _ h => ?_)
      refine AW_callVi (y := yX2_shownOn) (cc := cX2_shownOn) (n := 2) (d := 3) (mc := 0) (ms := 0) (np := 1) (ret := (some .int)) (As := [.int v12]) (st := []) (ci := 2) dX11_next_54 gT_s rfl tM_X11_139 tI_X2_shownOn tSel_X2_X2_X2_shownOn tIni_X2 tY_X2_shownOn (by decide +kernel) ⟨by decide, by decide⟩ ⟨by decide, by decide⟩ (Nat.le_of_ble_eq_true rfl) rfl h (fun q hq => c_X2_shownOn N _ _ _ q hq) (fun q13 _ h => ?_)
      exact AW_iret dX11_next_57 rfl ⟨Nat.zero_le _, Nat.zero_le _⟩ h
    · refine AW_ldc (v := -1000001) dX11_next_24 (List.mem_cons_of_mem _ tK_X11_55) ?_
      exact AW_iret dX11_next_26 rfl ⟨Nat.zero_le _, Nat.zero_le _⟩ h
  · refine AW_ldc (v := -1000002) dX11_next_10 (List.mem_cons_of_mem _ tK_X11_131) ?_
    exact AW_iret dX11_next_12 rfl ⟨Nat.zero_le _, Nat.zero_le _⟩ h
def f_X11_next (N : Nat) (A : hP) (x0 : Option Nat) (x1 : Int32) : Option (Int32 × hP) := f_X11_next_0 N A x0 x1
set_option maxRecDepth 20000 in
theorem c_X11_next {l : Launch} (N : Nat) (A : hP) (x0 : Option Nat) (x1 : Int32) (res : Int32 × hP) (h : f_X11_next N A x0 x1 = some res) : Ct l mX11_next 4 0 0 A [va_rf x0, .int x1] (gi res) := Ct.of (lv := [(0, va_rf x0), (1, .int x1)]) (ls := [some (va_rf x0), some (.int x1)]) (by decide) (by simp [lv_args, g_cat_rf, cat_i, cat_l]) rfl (by simp [g_cat_rf, cat_i, cat_l]) (fun G => (t_X11_next_0 N A x0 x1 res h))
abbrev mX11_refusalToTell : gM := gMk yX11_refusalToTell cX11_refusalToTell 5 (some .int)
def f_X11_refusalToTell_24 (N : Nat) (A : hP) : Option (Int32 × hP) := some ((-1000001 : Int32), A)
set_option maxRecDepth 20000 in
set_option maxHeartbeats 4000000 in
theorem t_X11_refusalToTell_24 {l : Launch} {G : gS} (N : Nat) (A : hP) (res : Int32 × hP) (h : f_X11_refusalToTell_24 N A  = some res) : AW l mX11_refusalToTell (g_rm 1 0 0) G (g_Qf G (gi res) 0 0) A 0 0 24 [none, none, none, none, none] [] := by
  unfold f_X11_refusalToTell_24 at h
  refine AW_ldc (v := -1000001) dX11_refusalToTell_24 (List.mem_cons_of_mem _ tK_X11_55) ?_
  exact AW_iret dX11_refusalToTell_26 rfl ⟨Nat.zero_le _, Nat.zero_le _⟩ h
def f_X11_refusalToTell_70 (N : Nat) : Nat → hP → Option Nat → Option Nat → Int32 → Option (Int32 × hP)
  | 0, _, _, _, _ => none
  | n + 1, A, x0, x3, x4 => (oR A x0 10 2).bind fun v1 => (oI A v1 2 5).bind fun v2 => if v2 ≤ x4 then (some ((0 : Int32), A)) else ((oR A x3 3 3).bind fun v3 => (oA A v3 0 x4).bind fun v4 => if (-1 : Int32) ≤ v4 then (f_X11_refusalToTell_70 N n A x0 x3 (x4 + (1 : Int32))) else (some ((-1000001 : Int32), A)))
set_option maxRecDepth 20000 in
set_option maxHeartbeats 4000000 in
theorem t_X11_refusalToTell_70 {l : Launch} {G : gS} (N : Nat) : ∀ (n : Nat) (A : hP) (x0 : Option Nat) (x3 : Option Nat) (x4 : Int32) (res : Int32 × hP), f_X11_refusalToTell_70 N n A x0 x3 x4 = some res → AW l mX11_refusalToTell (g_rm 1 0 0) G (g_Qf G (gi res) 0 0) A 0 0 70 [some (va_rf x0), none, none, some (va_rf x3), some (.int x4)] [] := by
  intro n
  induction n with
  | zero => intro A x0 x3 x4 res h; cases h
  | succ n ih =>
    intro A x0 x3 x4 res h
    rw [f_X11_refusalToTell_70] at h
    refine AW_iload dX11_refusalToTell_70 rfl ?_
    refine AW_aload_n dX11_refusalToTell_72 rfl ?_
    refine AW_getR (ci := 10) (k0 := 2) (C := RX11) (T := TX11) (N := 9) dX11_refusalToTell_73 rfl (gT_u tU_X11) (by decide) (List.mem_cons_of_mem _ tF_X11_25) h (fun v1 _ h => ?_)
    refine AW_getI (ci := 2) (k0 := 5) (C := RX2) (T := TX2) (N := 11) dX11_refusalToTell_76 rfl (gT_u tU_X2) (by decide) (List.mem_cons_of_mem _ tF_X11_127) h (fun v2 _ h => ?_)
    refine AW_icmp_ge (tgt := 102) dX11_refusalToTell_79 (by decide) h (fun _ h => ?_) (fun _ h => ?_)
    · refine AW_iconst (v := 0) dX11_refusalToTell_102 (by decide) ?_
      exact AW_iret dX11_refusalToTell_103 rfl ⟨Nat.zero_le _, Nat.zero_le _⟩ h
    · refine AW_aload_n dX11_refusalToTell_82 rfl ?_
      refine AW_getR (ci := 3) (k0 := 3) (C := RX3) (T := TX3) (N := 4) dX11_refusalToTell_83 rfl (gT_u tU_X3) (by decide) (List.mem_cons_of_mem _ tF_X11_75) h (fun v3 _ h => ?_)
      refine AW_iload dX11_refusalToTell_86 rfl ?_
      refine AW_iald dX11_refusalToTell_88 h (fun v4 _ h => ?_)
      refine AW_iconst (v := -1) dX11_refusalToTell_89 (by decide) ?_
      refine AW_icmp_ge (tgt := 96) dX11_refusalToTell_90 (by decide) h (fun _ h => ?_) (fun _ h => ?_)
      · refine AW_iinc (v := 1) (ls' := [some (va_rf x0), none, none, some (va_rf x3), some (.int (x4 + (1 : Int32)))]) dX11_refusalToTell_96 rfl (c1_r rfl) (by decide) (by decide) rfl ?_
        refine AW_goto (tgt := 70) dX11_refusalToTell_99 (by decide) ?_
        exact (ih _ _ _ _ _ h)
      · refine AW_ldc (v := -1000001) dX11_refusalToTell_93 (List.mem_cons_of_mem _ tK_X11_55) ?_
        exact AW_iret dX11_refusalToTell_95 rfl ⟨Nat.zero_le _, Nat.zero_le _⟩ h
def f_X11_refusalToTell_0 (N : Nat) (A : hP) (x0 : Option Nat) (x1 : Int32) (x2 : Int32) : Option (Int32 × hP) := (oR A x0 10 2).bind fun v5 => (oI A v5 2 0).bind fun v6 => if v6 = (0) then (some ((-1000002 : Int32), A)) else (if x2 = (0) then ((f_X11_isRow N A x1).bind fun q7 => if q7.1 = (0) then (f_X11_refusalToTell_24 N q7.2) else ((oR q7.2 x0 10 0).bind fun v8 => (oQ q7.2 v8 3 x1).bind fun v9 => (oI q7.2 v9 3 0).bind fun v10 => if v10 = (0) then ((oCk q7.2 x0 10).bind fun _ => (f_X11_found N q7.2 x0 (1 : Int32)).bind fun q15 => some (q15.1, q15.2)) else ((oI q7.2 v9 3 2).bind fun v11 => (oR q7.2 x0 10 2).bind fun v12 => (oI q7.2 v12 2 5).bind fun v13 => if v13 ≤ v11 then (f_X11_refusalToTell_70 N N q7.2 x0 v9 (0 : Int32)) else ((oCk q7.2 x0 10).bind fun _ => (f_X11_found N q7.2 x0 (2 : Int32)).bind fun q14 => some (q14.1, q14.2))))) else (f_X11_refusalToTell_24 N A))
set_option maxRecDepth 20000 in
set_option maxHeartbeats 4000000 in
theorem t_X11_refusalToTell_0 {l : Launch} {G : gS} (N : Nat) (A : hP) (x0 : Option Nat) (x1 : Int32) (x2 : Int32) (res : Int32 × hP) (h : f_X11_refusalToTell_0 N A x0 x1 x2 = some res) : AW l mX11_refusalToTell (g_rm 1 0 0) G (g_Qf G (gi res) 0 0) A 0 0 0 [some (va_rf x0), some (.int x1), some (.int x2), none, none] [] := by
  unfold f_X11_refusalToTell_0 at h
  refine AW_aload_n dX11_refusalToTell_0 rfl ?_
  refine AW_getR (ci := 10) (k0 := 2) (C := RX11) (T := TX11) (N := 9) dX11_refusalToTell_1 rfl (gT_u tU_X11) (by decide) (List.mem_cons_of_mem _ tF_X11_25) h (fun v5 _ h => ?_)
  refine AW_getI (ci := 2) (k0 := 0) (C := RX2) (T := TX2) (N := 11) dX11_refusalToTell_4 rfl (gT_u tU_X2) (by decide) (List.mem_cons_of_mem _ tF_X11_130) h (fun v6 _ h => ?_)
  refine AW_if_ne (tgt := 13) dX11_refusalToTell_7 (by decide) h (fun _ h => ?_) (fun _ h => ?_)
  · refine AW_iload_n dX11_refusalToTell_13 rfl ?_
    refine AW_if_ne (tgt := 24) dX11_refusalToTell_14 (by decide) h (fun _ h => ?_) (fun _ h => ?_)
    · exact AW_fewer (fw_d (fw_d (fw_d (fw_k (fw_k fw_n))))) (t_X11_refusalToTell_24 N _ _ h)
    · refine AW_iload_n dX11_refusalToTell_17 rfl ?_
      refine AW_callSi (y := yX11_isRow) (cc := cX11_isRow) (n := 1) (d := 0) (mc := 0) (ms := 0) (np := 1) (ret := (some .boolean)) (As := [.int x1]) (st := []) dX11_refusalToTell_18 gT_s tM_X11_51 tS_X11_isRow tIni_X11 tY_X11_isRow (by decide +kernel) ⟨by decide, by decide⟩ ⟨by decide, by decide⟩ (Nat.le_of_ble_eq_true rfl) rfl h (fun q hq => c_X11_isRow N _ _ q hq) (fun q7 _ h => ?_)
      refine AW_if_ne (tgt := 27) dX11_refusalToTell_21 (by decide) h (fun _ h => ?_) (fun _ h => ?_)
      · refine AW_aload_n dX11_refusalToTell_27 rfl ?_
        refine AW_getR (ci := 10) (k0 := 0) (C := RX11) (T := TX11) (N := 9) dX11_refusalToTell_28 rfl (gT_u tU_X11) (by decide) (List.mem_cons_of_mem _ tF_X11_11) h (fun v8 _ h => ?_)
        refine AW_iload_n dX11_refusalToTell_31 rfl ?_
        refine AW_aald (fun _ => rfl) dX11_refusalToTell_32 h (fun v9 _ h => ?_)
        refine AW_astore_n (ls' := [some (va_rf x0), some (.int x1), some (.int x2), some (va_rf v9), none]) dX11_refusalToTell_33 (c1_i rfl) (by decide) rfl ?_
        refine AW_aload_n dX11_refusalToTell_34 rfl ?_
        refine AW_getI (ci := 3) (k0 := 0) (C := RX3) (T := TX3) (N := 4) dX11_refusalToTell_35 rfl (gT_u tU_X3) (by decide) (List.mem_cons_of_mem _ tF_X11_67) h (fun v10 _ h => ?_)
        refine AW_if_ne (tgt := 47) dX11_refusalToTell_38 (by decide) h (fun _ h => ?_) (fun _ h => ?_)
        · refine AW_aload_n dX11_refusalToTell_47 rfl ?_
          refine AW_getI (ci := 3) (k0 := 2) (C := RX3) (T := TX3) (N := 4) dX11_refusalToTell_48 rfl (gT_u tU_X3) (by decide) (List.mem_cons_of_mem _ tF_X11_71) h (fun v11 _ h => ?_)
          refine AW_aload_n dX11_refusalToTell_51 rfl ?_
          refine AW_getR (ci := 10) (k0 := 2) (C := RX11) (T := TX11) (N := 9) dX11_refusalToTell_52 rfl (gT_u tU_X11) (by decide) (List.mem_cons_of_mem _ tF_X11_25) h (fun v12 _ h => ?_)
          refine AW_getI (ci := 2) (k0 := 5) (C := RX2) (T := TX2) (N := 11) dX11_refusalToTell_55 rfl (gT_u tU_X2) (by decide) (List.mem_cons_of_mem _ tF_X11_127) h (fun v13 _ h => ?_)
          refine AW_icmp_ge (tgt := 67) dX11_refusalToTell_58 (by decide) h (fun _ h => ?_) (fun _ h => ?_)
          · refine AW_iconst (v := 0) dX11_refusalToTell_67 (by decide) ?_
            refine AW_istore (ls' := [some (va_rf x0), some (.int x1), some (.int x2), some (va_rf v9), some (.int (0 : Int32))]) dX11_refusalToTell_68 (c1_r rfl) (by decide) rfl ?_
            exact AW_fewer (fw_k (fw_d (fw_d (fw_k (fw_k fw_n))))) (t_X11_refusalToTell_70 N N _ _ _ _ _ h)
          · refine AW_aload_n dX11_refusalToTell_61 rfl ?_
            refine AW_iconst (v := 2) dX11_refusalToTell_62 (by decide) ?_
            refine AW_callVi (y := yX11_found) (cc := cX11_found) (n := 2) (d := 0) (mc := 0) (ms := 0) (np := 1) (ret := (some .int)) (As := [.int (2 : Int32)]) (st := []) (ci := 10) dX11_refusalToTell_63 gT_s rfl tM_X11_56 tI_X11_found selp_X11_found tIni_X11 tY_X11_found (by decide +kernel) ⟨by decide, by decide⟩ ⟨by decide, by decide⟩ (Nat.le_of_ble_eq_true rfl) rfl h (fun q hq => c_X11_found N _ _ _ q hq) (fun q14 _ h => ?_)
            exact AW_iret dX11_refusalToTell_66 rfl ⟨Nat.zero_le _, Nat.zero_le _⟩ h
        · refine AW_aload_n dX11_refusalToTell_41 rfl ?_
          refine AW_iconst (v := 1) dX11_refusalToTell_42 (by decide) ?_
          refine AW_callVi (y := yX11_found) (cc := cX11_found) (n := 2) (d := 0) (mc := 0) (ms := 0) (np := 1) (ret := (some .int)) (As := [.int (1 : Int32)]) (st := []) (ci := 10) dX11_refusalToTell_43 gT_s rfl tM_X11_56 tI_X11_found selp_X11_found tIni_X11 tY_X11_found (by decide +kernel) ⟨by decide, by decide⟩ ⟨by decide, by decide⟩ (Nat.le_of_ble_eq_true rfl) rfl h (fun q hq => c_X11_found N _ _ _ q hq) (fun q15 _ h => ?_)
          exact AW_iret dX11_refusalToTell_46 rfl ⟨Nat.zero_le _, Nat.zero_le _⟩ h
      · exact AW_fewer (fw_d (fw_d (fw_d (fw_k (fw_k fw_n))))) (t_X11_refusalToTell_24 N _ _ h)
  · refine AW_ldc (v := -1000002) dX11_refusalToTell_10 (List.mem_cons_of_mem _ tK_X11_131) ?_
    exact AW_iret dX11_refusalToTell_12 rfl ⟨Nat.zero_le _, Nat.zero_le _⟩ h
def f_X11_refusalToTell (N : Nat) (A : hP) (x0 : Option Nat) (x1 : Int32) (x2 : Int32) : Option (Int32 × hP) := f_X11_refusalToTell_0 N A x0 x1 x2
set_option maxRecDepth 20000 in
theorem c_X11_refusalToTell {l : Launch} (N : Nat) (A : hP) (x0 : Option Nat) (x1 : Int32) (x2 : Int32) (res : Int32 × hP) (h : f_X11_refusalToTell N A x0 x1 x2 = some res) : Ct l mX11_refusalToTell 1 0 0 A [va_rf x0, .int x1, .int x2] (gi res) := Ct.of (lv := [(0, va_rf x0), (1, .int x1), (2, .int x2)]) (ls := [some (va_rf x0), some (.int x1), some (.int x2), none, none]) (by decide) (by simp [lv_args, g_cat_rf, cat_i, cat_l]) rfl (by simp [g_cat_rf, cat_i, cat_l]) (fun G => (t_X11_refusalToTell_0 N A x0 x1 x2 res h))
abbrev mX11_fits : gM := gMk yX11_fits cX11_fits 7 (some .int)
def f_X11_fits_115 (N : Nat) (A : hP) (s0 : Option Nat) (s1 : Int32) : Option (Int32 × hP) := (oCk A s0 10).bind fun _ => (f_X11_passed N A s0 s1).bind fun q1 => some (q1.1, q1.2)
set_option maxRecDepth 20000 in
set_option maxHeartbeats 4000000 in
theorem t_X11_fits_115 {l : Launch} {G : gS} (N : Nat) (A : hP) (s0 : Option Nat) (s1 : Int32) (res : Int32 × hP) (h : f_X11_fits_115 N A s0 s1 = some res) : AW l mX11_fits (g_rm 6 0 0) G (g_Qf G (gi res) 0 0) A 0 0 115 [none, none, none, none, none, none, none] [.int s1, va_rf s0] := by
  unfold f_X11_fits_115 at h
  refine AW_callVi (y := yX11_passed) (cc := cX11_passed) (n := 2) (d := 0) (mc := 0) (ms := 0) (np := 1) (ret := (some .int)) (As := [.int s1]) (st := []) (ci := 10) dX11_fits_115 gT_s rfl tM_X11_64 tI_X11_passed selp_X11_passed tIni_X11 tY_X11_passed (by decide +kernel) ⟨by decide, by decide⟩ ⟨by decide, by decide⟩ (Nat.le_of_ble_eq_true rfl) rfl h (fun q hq => c_X11_passed N _ _ _ q hq) (fun q1 _ h => ?_)
  exact AW_iret dX11_fits_118 rfl ⟨Nat.zero_le _, Nat.zero_le _⟩ h
def f_X11_fits_57 (N : Nat) (A : hP) (x0 : Option Nat) (x1 : Int32) (x2 : Int32) (x3 : Int32) (x4 : Int32) (s0 : Option Nat) (s1 : Int32) (s2 : Int32) : Option (Int32 × hP) := (oCk A s0 10).bind fun _ => (f_X11_refusalToTell N A s0 s1 s2).bind fun q2 => if q2.1 = (0) then ((oR q2.2 x0 10 5).bind fun v3 => (oR q2.2 x0 10 2).bind fun v4 => (oR q2.2 x0 10 0).bind fun v5 => (oQ q2.2 v5 3 x1).bind fun v6 => (oR q2.2 v6 3 3).bind fun v7 => (oCk q2.2 v3 9).bind fun _ => (f_X10_begin N q2.2 v3 v4 v7).bind fun q8 => if x4 = (0) then ((oR q8.2 x0 10 5).bind fun v9 => (oCk q8.2 v9 9).bind fun _ => (f_X10_howManyFitWith N q8.2 v9 x2 x3).bind fun q10 => f_X11_fits_115 N q10.2 x0 q10.1) else ((oR q8.2 x0 10 5).bind fun v11 => (oCk q8.2 v11 9).bind fun _ => (f_X10_howManyFit N q8.2 v11).bind fun q12 => f_X11_fits_115 N q12.2 x0 q12.1)) else (some (q2.1, q2.2))
set_option maxRecDepth 20000 in
set_option maxHeartbeats 4000000 in
theorem t_X11_fits_57 {l : Launch} {G : gS} (N : Nat) (A : hP) (x0 : Option Nat) (x1 : Int32) (x2 : Int32) (x3 : Int32) (x4 : Int32) (s0 : Option Nat) (s1 : Int32) (s2 : Int32) (res : Int32 × hP) (h : f_X11_fits_57 N A x0 x1 x2 x3 x4 s0 s1 s2 = some res) : AW l mX11_fits (g_rm 6 0 0) G (g_Qf G (gi res) 0 0) A 0 0 57 [some (va_rf x0), some (.int x1), some (.int x2), some (.int x3), some (.int x4), none, none] [.int s2, .int s1, va_rf s0] := by
  unfold f_X11_fits_57 at h
  refine AW_callVi (y := yX11_refusalToTell) (cc := cX11_refusalToTell) (n := 5) (d := 1) (mc := 0) (ms := 0) (np := 2) (ret := (some .int)) (As := [.int s1, .int s2]) (st := []) (ci := 10) dX11_fits_57 gT_s rfl tM_X11_167 tI_X11_refusalToTell selp_X11_refusalToTell tIni_X11 tY_X11_refusalToTell (by decide +kernel) ⟨by decide, by decide⟩ ⟨by decide, by decide⟩ (Nat.le_of_ble_eq_true rfl) rfl h (fun q hq => c_X11_refusalToTell N _ _ _ _ q hq) (fun q2 _ h => ?_)
  refine AW_istore (ls' := [some (va_rf x0), some (.int x1), some (.int x2), some (.int x3), some (.int x4), none, some (.int q2.1)]) dX11_fits_60 (c1_n rfl) (by decide) rfl ?_
  refine AW_iload dX11_fits_62 rfl ?_
  refine AW_if_eq (tgt := 70) dX11_fits_64 (by decide) h (fun _ h => ?_) (fun _ h => ?_)
  · refine AW_aload_n dX11_fits_70 rfl ?_
    refine AW_getR (ci := 10) (k0 := 5) (C := RX11) (T := TX11) (N := 9) dX11_fits_71 rfl (gT_u tU_X11) (by decide) (List.mem_cons_of_mem _ tF_X11_39) h (fun v3 _ h => ?_)
    refine AW_aload_n dX11_fits_74 rfl ?_
    refine AW_getR (ci := 10) (k0 := 2) (C := RX11) (T := TX11) (N := 9) dX11_fits_75 rfl (gT_u tU_X11) (by decide) (List.mem_cons_of_mem _ tF_X11_25) h (fun v4 _ h => ?_)
    refine AW_aload_n dX11_fits_78 rfl ?_
    refine AW_getR (ci := 10) (k0 := 0) (C := RX11) (T := TX11) (N := 9) dX11_fits_79 rfl (gT_u tU_X11) (by decide) (List.mem_cons_of_mem _ tF_X11_11) h (fun v5 _ h => ?_)
    refine AW_iload_n dX11_fits_82 rfl ?_
    refine AW_aald (fun _ => rfl) dX11_fits_83 h (fun v6 _ h => ?_)
    refine AW_getR (ci := 3) (k0 := 3) (C := RX3) (T := TX3) (N := 4) dX11_fits_84 rfl (gT_u tU_X3) (by decide) (List.mem_cons_of_mem _ tF_X11_75) h (fun v7 _ h => ?_)
    refine AW_callVu (y := yX10_begin) (cc := cX10_begin) (n := 3) (d := 5) (mc := 0) (ms := 0) (np := 2) (ret := none) (As := [va_rf v4, va_rf v7]) (st := []) (ci := 9) dX11_fits_87 gT_s rfl tM_X11_171 tI_X10_begin tSel_X10_X10_X10_begin tIni_X10 tY_X10_begin (by decide +kernel) ⟨by decide, by decide⟩ ⟨by decide, by decide⟩ (Nat.le_of_ble_eq_true rfl) rfl h (fun q hq => c_X10_begin N _ _ _ _ q hq) (fun q8 _ h => ?_)
    refine AW_aload_n dX11_fits_90 rfl ?_
    refine AW_iload dX11_fits_91 rfl ?_
    refine AW_if_eq (tgt := 106) dX11_fits_93 (by decide) h (fun _ h => ?_) (fun _ h => ?_)
    · refine AW_aload_n dX11_fits_106 rfl ?_
      refine AW_getR (ci := 10) (k0 := 5) (C := RX11) (T := TX11) (N := 9) dX11_fits_107 rfl (gT_u tU_X11) (by decide) (List.mem_cons_of_mem _ tF_X11_39) h (fun v9 _ h => ?_)
      refine AW_iload_n dX11_fits_110 rfl ?_
      refine AW_iload_n dX11_fits_111 rfl ?_
      refine AW_callVi (y := yX10_howManyFitWith) (cc := cX10_howManyFitWith) (n := 5) (d := 3) (mc := 0) (ms := 0) (np := 2) (ret := (some .int)) (As := [.int x2, .int x3]) (st := [va_rf x0]) (ci := 9) dX11_fits_112 gT_s rfl tM_X11_178 tI_X10_howManyFitWith tSel_X10_X10_X10_howManyFitWith tIni_X10 tY_X10_howManyFitWith (by decide +kernel) ⟨by decide, by decide⟩ ⟨by decide, by decide⟩ (Nat.le_of_ble_eq_true rfl) rfl h (fun q hq => c_X10_howManyFitWith N _ _ _ _ q hq) (fun q10 _ h => ?_)
      exact AW_fewer (fw_d (fw_d (fw_d (fw_d (fw_d (fw_k (fw_d fw_n))))))) (t_X11_fits_115 N _ _ _ _ h)
    · refine AW_aload_n dX11_fits_96 rfl ?_
      refine AW_getR (ci := 10) (k0 := 5) (C := RX11) (T := TX11) (N := 9) dX11_fits_97 rfl (gT_u tU_X11) (by decide) (List.mem_cons_of_mem _ tF_X11_39) h (fun v11 _ h => ?_)
      refine AW_callVi (y := yX10_howManyFit) (cc := cX10_howManyFit) (n := 3) (d := 3) (mc := 0) (ms := 0) (np := 0) (ret := (some .int)) (As := []) (st := [va_rf x0]) (ci := 9) dX11_fits_100 gT_s rfl tM_X11_174 tI_X10_howManyFit tSel_X10_X10_X10_howManyFit tIni_X10 tY_X10_howManyFit (by decide +kernel) ⟨by decide, by decide⟩ ⟨by decide, by decide⟩ (Nat.le_of_ble_eq_true rfl) rfl h (fun q hq => c_X10_howManyFit N _ _ q hq) (fun q12 _ h => ?_)
      refine AW_goto (tgt := 115) dX11_fits_103 (by decide) ?_
      exact AW_fewer (fw_d (fw_d (fw_d (fw_d (fw_d (fw_k (fw_d fw_n))))))) (t_X11_fits_115 N _ _ _ _ h)
  · refine AW_iload dX11_fits_67 rfl ?_
    exact AW_iret dX11_fits_69 rfl ⟨Nat.zero_le _, Nat.zero_le _⟩ h
def f_X11_fits_52 (N : Nat) (A : hP) (x0 : Option Nat) (x1 : Int32) (x2 : Int32) (x3 : Int32) (x4 : Int32) (s0 : Option Nat) (s1 : Int32) : Option (Int32 × hP) := f_X11_fits_57 N A x0 x1 x2 x3 x4 s0 s1 (1 : Int32)
set_option maxRecDepth 20000 in
set_option maxHeartbeats 4000000 in
theorem t_X11_fits_52 {l : Launch} {G : gS} (N : Nat) (A : hP) (x0 : Option Nat) (x1 : Int32) (x2 : Int32) (x3 : Int32) (x4 : Int32) (s0 : Option Nat) (s1 : Int32) (res : Int32 × hP) (h : f_X11_fits_52 N A x0 x1 x2 x3 x4 s0 s1 = some res) : AW l mX11_fits (g_rm 6 0 0) G (g_Qf G (gi res) 0 0) A 0 0 52 [some (va_rf x0), some (.int x1), some (.int x2), some (.int x3), some (.int x4), none, none] [.int s1, va_rf s0] := by
  unfold f_X11_fits_52 at h
  refine AW_iconst (v := 1) dX11_fits_52 (by decide) ?_
  refine AW_goto (tgt := 57) dX11_fits_53 (by decide) ?_
  exact (t_X11_fits_57 N _ _ _ _ _ _ _ _ _ _ h)
def f_X11_fits_33 (N : Nat) (A : hP) (x0 : Option Nat) (x1 : Int32) (x2 : Int32) (x3 : Int32) (x4 : Int32) (s0 : Int32) : Option (Int32 × hP) := if s0 = (0) then (if x3 < (0) then (f_X11_fits_52 N A x0 x1 x2 x3 x4 x0 x1) else (if x3 ≤ (7 : Int32) then (f_X11_fits_57 N A x0 x1 x2 x3 x4 x0 x1 (0 : Int32)) else (f_X11_fits_52 N A x0 x1 x2 x3 x4 x0 x1))) else (f_X11_fits_52 N A x0 x1 x2 x3 x4 x0 x1)
set_option maxRecDepth 20000 in
set_option maxHeartbeats 4000000 in
theorem t_X11_fits_33 {l : Launch} {G : gS} (N : Nat) (A : hP) (x0 : Option Nat) (x1 : Int32) (x2 : Int32) (x3 : Int32) (x4 : Int32) (s0 : Int32) (res : Int32 × hP) (h : f_X11_fits_33 N A x0 x1 x2 x3 x4 s0 = some res) : AW l mX11_fits (g_rm 6 0 0) G (g_Qf G (gi res) 0 0) A 0 0 33 [some (va_rf x0), some (.int x1), some (.int x2), some (.int x3), some (.int x4), none, none] [.int s0] := by
  unfold f_X11_fits_33 at h
  refine AW_istore (ls' := [some (va_rf x0), some (.int x1), some (.int x2), some (.int x3), some (.int x4), some (.int s0), none]) dX11_fits_33 (c1_i rfl) (by decide) rfl ?_
  refine AW_aload_n dX11_fits_35 rfl ?_
  refine AW_iload_n dX11_fits_36 rfl ?_
  refine AW_iload dX11_fits_37 rfl ?_
  refine AW_if_ne (tgt := 52) dX11_fits_39 (by decide) h (fun _ h => ?_) (fun _ h => ?_)
  · exact AW_fewer (fw_k (fw_k (fw_k (fw_k (fw_k (fw_d (fw_k fw_n))))))) (t_X11_fits_52 N _ _ _ _ _ _ _ _ _ h)
  · refine AW_iload_n dX11_fits_42 rfl ?_
    refine AW_if_lt (tgt := 52) dX11_fits_43 (by decide) h (fun _ h => ?_) (fun _ h => ?_)
    · exact AW_fewer (fw_k (fw_k (fw_k (fw_k (fw_k (fw_d (fw_k fw_n))))))) (t_X11_fits_52 N _ _ _ _ _ _ _ _ _ h)
    · refine AW_iload_n dX11_fits_46 rfl ?_
      refine AW_bipush (v := 7) dX11_fits_47 (by decide) ?_
      refine AW_icmp_le (tgt := 56) dX11_fits_49 (by decide) h (fun _ h => ?_) (fun _ h => ?_)
      · refine AW_iconst (v := 0) dX11_fits_56 (by decide) ?_
        exact AW_fewer (fw_k (fw_k (fw_k (fw_k (fw_k (fw_d (fw_k fw_n))))))) (t_X11_fits_57 N _ _ _ _ _ _ _ _ _ _ h)
      · exact AW_fewer (fw_k (fw_k (fw_k (fw_k (fw_k (fw_d (fw_k fw_n))))))) (t_X11_fits_52 N _ _ _ _ _ _ _ _ _ h)
def f_X11_fits_32 (N : Nat) (A : hP) (x0 : Option Nat) (x1 : Int32) (x2 : Int32) (x3 : Int32) (x4 : Int32) : Option (Int32 × hP) := f_X11_fits_33 N A x0 x1 x2 x3 x4 (0 : Int32)
set_option maxRecDepth 20000 in
set_option maxHeartbeats 4000000 in
theorem t_X11_fits_32 {l : Launch} {G : gS} (N : Nat) (A : hP) (x0 : Option Nat) (x1 : Int32) (x2 : Int32) (x3 : Int32) (x4 : Int32) (res : Int32 × hP) (h : f_X11_fits_32 N A x0 x1 x2 x3 x4 = some res) : AW l mX11_fits (g_rm 6 0 0) G (g_Qf G (gi res) 0 0) A 0 0 32 [some (va_rf x0), some (.int x1), some (.int x2), some (.int x3), some (.int x4), none, none] [] := by
  unfold f_X11_fits_32 at h
  refine AW_iconst (v := 0) dX11_fits_32 (by decide) ?_
  exact (t_X11_fits_33 N _ _ _ _ _ _ _ _ h)
def f_X11_fits_10 (N : Nat) (A : hP) (x0 : Option Nat) (x1 : Int32) (x2 : Int32) (x3 : Int32) (s0 : Int32) : Option (Int32 × hP) := if s0 = (0) then ((oR A x0 10 2).bind fun v13 => (oCk A v13 2).bind fun _ => (f_X2_thingAt N A v13 x2).bind fun q14 => if q14.1 = none then (f_X11_fits_33 N q14.2 x0 x1 x2 x3 s0 (1 : Int32)) else (f_X11_fits_32 N q14.2 x0 x1 x2 x3 s0)) else (f_X11_fits_32 N A x0 x1 x2 x3 s0)
set_option maxRecDepth 20000 in
set_option maxHeartbeats 4000000 in
theorem t_X11_fits_10 {l : Launch} {G : gS} (N : Nat) (A : hP) (x0 : Option Nat) (x1 : Int32) (x2 : Int32) (x3 : Int32) (s0 : Int32) (res : Int32 × hP) (h : f_X11_fits_10 N A x0 x1 x2 x3 s0 = some res) : AW l mX11_fits (g_rm 6 0 0) G (g_Qf G (gi res) 0 0) A 0 0 10 [some (va_rf x0), some (.int x1), some (.int x2), some (.int x3), none, none, none] [.int s0] := by
  unfold f_X11_fits_10 at h
  refine AW_istore (ls' := [some (va_rf x0), some (.int x1), some (.int x2), some (.int x3), some (.int s0), none, none]) dX11_fits_10 (c1_i rfl) (by decide) rfl ?_
  refine AW_iload dX11_fits_12 rfl ?_
  refine AW_if_ne (tgt := 32) dX11_fits_14 (by decide) h (fun _ h => ?_) (fun _ h => ?_)
  · exact (t_X11_fits_32 N _ _ _ _ _ _ _ h)
  · refine AW_aload_n dX11_fits_17 rfl ?_
    refine AW_getR (ci := 10) (k0 := 2) (C := RX11) (T := TX11) (N := 9) dX11_fits_18 rfl (gT_u tU_X11) (by decide) (List.mem_cons_of_mem _ tF_X11_25) h (fun v13 _ h => ?_)
    refine AW_iload_n dX11_fits_21 rfl ?_
    refine AW_callVr (y := yX2_thingAt) (cc := cX2_thingAt) (n := 2) (d := 0) (mc := 0) (ms := 0) (np := 1) (ret := (some (.object "YesterdayScale$Thing"))) (As := [.int x2]) (st := []) (ci := 2) dX11_fits_22 gT_s rfl tM_X11_154 tI_X2_thingAt tSel_X2_X2_X2_thingAt tIni_X2 tY_X2_thingAt (by decide +kernel) ⟨by decide, by decide⟩ ⟨by decide, by decide⟩ (Nat.le_of_ble_eq_true rfl) rfl h (fun q hq => c_X2_thingAt N _ _ _ q hq) (fun q14 _ h => ?_)
    refine AW_ifnonnull (tgt := 32) dX11_fits_25 (by decide) h (fun _ h => ?_) (fun _ h => ?_)
    · exact (t_X11_fits_32 N _ _ _ _ _ _ _ h)
    · refine AW_iconst (v := 1) dX11_fits_28 (by decide) ?_
      refine AW_goto (tgt := 33) dX11_fits_29 (by decide) ?_
      exact (t_X11_fits_33 N _ _ _ _ _ _ _ _ h)
def f_X11_fits_0 (N : Nat) (A : hP) (x0 : Option Nat) (x1 : Int32) (x2 : Int32) (x3 : Int32) : Option (Int32 × hP) := if x2 = (-1 : Int32) then (f_X11_fits_10 N A x0 x1 x2 x3 (1 : Int32)) else (f_X11_fits_10 N A x0 x1 x2 x3 (0 : Int32))
set_option maxRecDepth 20000 in
set_option maxHeartbeats 4000000 in
theorem t_X11_fits_0 {l : Launch} {G : gS} (N : Nat) (A : hP) (x0 : Option Nat) (x1 : Int32) (x2 : Int32) (x3 : Int32) (res : Int32 × hP) (h : f_X11_fits_0 N A x0 x1 x2 x3 = some res) : AW l mX11_fits (g_rm 6 0 0) G (g_Qf G (gi res) 0 0) A 0 0 0 [some (va_rf x0), some (.int x1), some (.int x2), some (.int x3), none, none, none] [] := by
  unfold f_X11_fits_0 at h
  refine AW_iload_n dX11_fits_0 rfl ?_
  refine AW_iconst (v := -1) dX11_fits_1 (by decide) ?_
  refine AW_icmp_ne (tgt := 9) dX11_fits_2 (by decide) h (fun _ h => ?_) (fun _ h => ?_)
  · refine AW_iconst (v := 0) dX11_fits_9 (by decide) ?_
    exact (t_X11_fits_10 N _ _ _ _ _ _ _ h)
  · refine AW_iconst (v := 1) dX11_fits_5 (by decide) ?_
    refine AW_goto (tgt := 10) dX11_fits_6 (by decide) ?_
    exact (t_X11_fits_10 N _ _ _ _ _ _ _ h)
def f_X11_fits (N : Nat) (A : hP) (x0 : Option Nat) (x1 : Int32) (x2 : Int32) (x3 : Int32) : Option (Int32 × hP) := f_X11_fits_0 N A x0 x1 x2 x3
set_option maxRecDepth 20000 in
theorem c_X11_fits {l : Launch} (N : Nat) (A : hP) (x0 : Option Nat) (x1 : Int32) (x2 : Int32) (x3 : Int32) (res : Int32 × hP) (h : f_X11_fits N A x0 x1 x2 x3 = some res) : Ct l mX11_fits 6 0 0 A [va_rf x0, .int x1, .int x2, .int x3] (gi res) := Ct.of (lv := [(0, va_rf x0), (1, .int x1), (2, .int x2), (3, .int x3)]) (ls := [some (va_rf x0), some (.int x1), some (.int x2), some (.int x3), none, none, none]) (by decide) (by simp [lv_args, g_cat_rf, cat_i, cat_l]) rfl (by simp [g_cat_rf, cat_i, cat_l]) (fun G => (t_X11_fits_0 N A x0 x1 x2 x3 res h))
