abbrev mX11_sure : gM := gMk yX11_sure cX11_sure 4 (some .int)
def f_X11_sure_18 (N : Nat) (A : hP) (x0 : Option Nat) (x1 : Int32) (x2 : Int32) (s0 : Option Nat) (s1 : Int32) (s2 : Int32) : Option (Int32 × hP) := (oCk A s0 10).bind fun _ => (f_X11_refusalToTell N A s0 s1 s2).bind fun q1 => if q1.1 = (0) then ((oR q1.2 x0 10 5).bind fun v2 => (oR q1.2 x0 10 2).bind fun v3 => (oR q1.2 x0 10 0).bind fun v4 => (oQ q1.2 v4 3 x1).bind fun v5 => (oR q1.2 v5 3 3).bind fun v6 => (oCk q1.2 v2 9).bind fun _ => (f_X10_begin N q1.2 v2 v3 v6).bind fun q7 => (oR q7.2 x0 10 5).bind fun v8 => (oCk q7.2 v8 9).bind fun _ => (f_X10_sureWeight N q7.2 v8 x2).bind fun q9 => (oCk q9.2 x0 10).bind fun _ => (f_X11_passed N q9.2 x0 q9.1).bind fun q10 => some (q10.1, q10.2)) else (some (q1.1, q1.2))
set_option maxRecDepth 20000 in
set_option maxHeartbeats 4000000 in
theorem t_X11_sure_18 {l : Launch} {G : gS} (N : Nat) (A : hP) (x0 : Option Nat) (x1 : Int32) (x2 : Int32) (s0 : Option Nat) (s1 : Int32) (s2 : Int32) (res : Int32 × hP) (h : f_X11_sure_18 N A x0 x1 x2 s0 s1 s2 = some res) : AW l mX11_sure (g_rm 6 0 0) G (g_Qf G (gi res) 0 0) A 0 0 18 [some (va_rf x0), some (.int x1), some (.int x2), none] [.int s2, .int s1, va_rf s0] := by
  unfold f_X11_sure_18 at h
  refine AW_callVi (y := yX11_refusalToTell) (cc := cX11_refusalToTell) (n := 5) (d := 1) (mc := 0) (ms := 0) (np := 2) (ret := (some .int)) (As := [.int s1, .int s2]) (st := []) (ci := 10) dX11_sure_18 gT_s rfl tM_X11_167 tI_X11_refusalToTell selp_X11_refusalToTell tIni_X11 tY_X11_refusalToTell (by decide +kernel) ⟨by decide, by decide⟩ ⟨by decide, by decide⟩ (Nat.le_of_ble_eq_true rfl) rfl h (fun q hq => c_X11_refusalToTell N _ _ _ _ q hq) (fun q1 _ h => ?_)
  refine AW_istore_n (ls' := [some (va_rf x0), some (.int x1), some (.int x2), some (.int q1.1)]) dX11_sure_21 (c1_i rfl) (by decide) rfl ?_
  refine AW_iload_n dX11_sure_22 rfl ?_
  refine AW_if_eq (tgt := 28) dX11_sure_23 (by decide) h (fun _ h => ?_) (fun _ h => ?_)
  · refine AW_aload_n dX11_sure_28 rfl ?_
    refine AW_getR (ci := 10) (k0 := 5) (C := RX11) (T := TX11) (N := 9) dX11_sure_29 rfl (gT_u tU_X11) (by decide) (List.mem_cons_of_mem _ tF_X11_39) h (fun v2 _ h => ?_)
    refine AW_aload_n dX11_sure_32 rfl ?_
    refine AW_getR (ci := 10) (k0 := 2) (C := RX11) (T := TX11) (N := 9) dX11_sure_33 rfl (gT_u tU_X11) (by decide) (List.mem_cons_of_mem _ tF_X11_25) h (fun v3 _ h => ?_)
    refine AW_aload_n dX11_sure_36 rfl ?_
    refine AW_getR (ci := 10) (k0 := 0) (C := RX11) (T := TX11) (N := 9) dX11_sure_37 rfl (gT_u tU_X11) (by decide) (List.mem_cons_of_mem _ tF_X11_11) h (fun v4 _ h => ?_)
    refine AW_iload_n dX11_sure_40 rfl ?_
    refine AW_aald (fun _ => rfl) dX11_sure_41 h (fun v5 _ h => ?_)
    refine AW_getR (ci := 3) (k0 := 3) (C := RX3) (T := TX3) (N := 4) dX11_sure_42 rfl (gT_u tU_X3) (by decide) (List.mem_cons_of_mem _ tF_X11_75) h (fun v6 _ h => ?_)
    refine AW_callVu (y := yX10_begin) (cc := cX10_begin) (n := 3) (d := 5) (mc := 0) (ms := 0) (np := 2) (ret := none) (As := [va_rf v3, va_rf v6]) (st := []) (ci := 9) dX11_sure_45 gT_s rfl tM_X11_171 tI_X10_begin tSel_X10_X10_X10_begin tIni_X10 tY_X10_begin (by decide +kernel) ⟨by decide, by decide⟩ ⟨by decide, by decide⟩ (Nat.le_of_ble_eq_true rfl) rfl h (fun q hq => c_X10_begin N _ _ _ _ q hq) (fun q7 _ h => ?_)
    refine AW_aload_n dX11_sure_48 rfl ?_
    refine AW_aload_n dX11_sure_49 rfl ?_
    refine AW_getR (ci := 10) (k0 := 5) (C := RX11) (T := TX11) (N := 9) dX11_sure_50 rfl (gT_u tU_X11) (by decide) (List.mem_cons_of_mem _ tF_X11_39) h (fun v8 _ h => ?_)
    refine AW_iload_n dX11_sure_53 rfl ?_
    refine AW_callVi (y := yX10_sureWeight) (cc := cX10_sureWeight) (n := 5) (d := 3) (mc := 0) (ms := 0) (np := 1) (ret := (some .int)) (As := [.int x2]) (st := [va_rf x0]) (ci := 9) dX11_sure_54 gT_s rfl tM_X11_181 tI_X10_sureWeight tSel_X10_X10_X10_sureWeight tIni_X10 tY_X10_sureWeight (by decide +kernel) ⟨by decide, by decide⟩ ⟨by decide, by decide⟩ (Nat.le_of_ble_eq_true rfl) rfl h (fun q hq => c_X10_sureWeight N _ _ _ q hq) (fun q9 _ h => ?_)
    refine AW_callVi (y := yX11_passed) (cc := cX11_passed) (n := 2) (d := 0) (mc := 0) (ms := 0) (np := 1) (ret := (some .int)) (As := [.int q9.1]) (st := []) (ci := 10) dX11_sure_57 gT_s rfl tM_X11_64 tI_X11_passed selp_X11_passed tIni_X11 tY_X11_passed (by decide +kernel) ⟨by decide, by decide⟩ ⟨by decide, by decide⟩ (Nat.le_of_ble_eq_true rfl) rfl h (fun q hq => c_X11_passed N _ _ _ q hq) (fun q10 _ h => ?_)
    exact AW_iret dX11_sure_60 rfl ⟨Nat.zero_le _, Nat.zero_le _⟩ h
  · refine AW_iload_n dX11_sure_26 rfl ?_
    exact AW_iret dX11_sure_27 rfl ⟨Nat.zero_le _, Nat.zero_le _⟩ h
def f_X11_sure_0 (N : Nat) (A : hP) (x0 : Option Nat) (x1 : Int32) (x2 : Int32) : Option (Int32 × hP) := (oR A x0 10 2).bind fun v11 => (oCk A v11 2).bind fun _ => (f_X2_thingAt N A v11 x2).bind fun q12 => if q12.1 = none then (f_X11_sure_18 N q12.2 x0 x1 x2 x0 x1 (1 : Int32)) else (f_X11_sure_18 N q12.2 x0 x1 x2 x0 x1 (0 : Int32))
set_option maxRecDepth 20000 in
set_option maxHeartbeats 4000000 in
theorem t_X11_sure_0 {l : Launch} {G : gS} (N : Nat) (A : hP) (x0 : Option Nat) (x1 : Int32) (x2 : Int32) (res : Int32 × hP) (h : f_X11_sure_0 N A x0 x1 x2 = some res) : AW l mX11_sure (g_rm 6 0 0) G (g_Qf G (gi res) 0 0) A 0 0 0 [some (va_rf x0), some (.int x1), some (.int x2), none] [] := by
  unfold f_X11_sure_0 at h
  refine AW_aload_n dX11_sure_0 rfl ?_
  refine AW_iload_n dX11_sure_1 rfl ?_
  refine AW_aload_n dX11_sure_2 rfl ?_
  refine AW_getR (ci := 10) (k0 := 2) (C := RX11) (T := TX11) (N := 9) dX11_sure_3 rfl (gT_u tU_X11) (by decide) (List.mem_cons_of_mem _ tF_X11_25) h (fun v11 _ h => ?_)
  refine AW_iload_n dX11_sure_6 rfl ?_
  refine AW_callVr (y := yX2_thingAt) (cc := cX2_thingAt) (n := 2) (d := 0) (mc := 0) (ms := 0) (np := 1) (ret := (some (.object "YesterdayScale$Thing"))) (As := [.int x2]) (st := [.int x1, va_rf x0]) (ci := 2) dX11_sure_7 gT_s rfl tM_X11_154 tI_X2_thingAt tSel_X2_X2_X2_thingAt tIni_X2 tY_X2_thingAt (by decide +kernel) ⟨by decide, by decide⟩ ⟨by decide, by decide⟩ (Nat.le_of_ble_eq_true rfl) rfl h (fun q hq => c_X2_thingAt N _ _ _ q hq) (fun q12 _ h => ?_)
  refine AW_ifnonnull (tgt := 17) dX11_sure_10 (by decide) h (fun _ h => ?_) (fun _ h => ?_)
  · refine AW_iconst (v := 0) dX11_sure_17 (by decide) ?_
    exact (t_X11_sure_18 N _ _ _ _ _ _ _ _ h)
  · refine AW_iconst (v := 1) dX11_sure_13 (by decide) ?_
    refine AW_goto (tgt := 18) dX11_sure_14 (by decide) ?_
    exact (t_X11_sure_18 N _ _ _ _ _ _ _ _ h)
def f_X11_sure (N : Nat) (A : hP) (x0 : Option Nat) (x1 : Int32) (x2 : Int32) : Option (Int32 × hP) := f_X11_sure_0 N A x0 x1 x2
set_option maxRecDepth 20000 in
theorem c_X11_sure {l : Launch} (N : Nat) (A : hP) (x0 : Option Nat) (x1 : Int32) (x2 : Int32) (res : Int32 × hP) (h : f_X11_sure N A x0 x1 x2 = some res) : Ct l mX11_sure 6 0 0 A [va_rf x0, .int x1, .int x2] (gi res) := Ct.of (lv := [(0, va_rf x0), (1, .int x1), (2, .int x2)]) (ls := [some (va_rf x0), some (.int x1), some (.int x2), none]) (by decide) (by simp [lv_args, g_cat_rf, cat_i, cat_l]) rfl (by simp [g_cat_rf, cat_i, cat_l]) (fun G => (t_X11_sure_0 N A x0 x1 x2 res h))
abbrev mX11_gap : gM := gMk yX11_gap cX11_gap 4 (some .int)
def f_X11_gap_18 (N : Nat) (A : hP) (x0 : Option Nat) (x1 : Int32) (x2 : Int32) (s0 : Option Nat) (s1 : Int32) (s2 : Int32) : Option (Int32 × hP) := (oCk A s0 10).bind fun _ => (f_X11_refusalToTell N A s0 s1 s2).bind fun q1 => if q1.1 = (0) then ((oR q1.2 x0 10 5).bind fun v2 => (oR q1.2 x0 10 2).bind fun v3 => (oR q1.2 x0 10 0).bind fun v4 => (oQ q1.2 v4 3 x1).bind fun v5 => (oR q1.2 v5 3 3).bind fun v6 => (oCk q1.2 v2 9).bind fun _ => (f_X10_begin N q1.2 v2 v3 v6).bind fun q7 => (oR q7.2 x0 10 5).bind fun v8 => (oCk q7.2 v8 9).bind fun _ => (f_X10_sureShown N q7.2 v8 x2).bind fun q9 => (oCk q9.2 x0 10).bind fun _ => (f_X11_passed N q9.2 x0 q9.1).bind fun q10 => some (q10.1, q10.2)) else (some (q1.1, q1.2))
set_option maxRecDepth 20000 in
set_option maxHeartbeats 4000000 in
theorem t_X11_gap_18 {l : Launch} {G : gS} (N : Nat) (A : hP) (x0 : Option Nat) (x1 : Int32) (x2 : Int32) (s0 : Option Nat) (s1 : Int32) (s2 : Int32) (res : Int32 × hP) (h : f_X11_gap_18 N A x0 x1 x2 s0 s1 s2 = some res) : AW l mX11_gap (g_rm 6 0 0) G (g_Qf G (gi res) 0 0) A 0 0 18 [some (va_rf x0), some (.int x1), some (.int x2), none] [.int s2, .int s1, va_rf s0] := by
  unfold f_X11_gap_18 at h
  refine AW_callVi (y := yX11_refusalToTell) (cc := cX11_refusalToTell) (n := 5) (d := 1) (mc := 0) (ms := 0) (np := 2) (ret := (some .int)) (As := [.int s1, .int s2]) (st := []) (ci := 10) dX11_gap_18 gT_s rfl tM_X11_167 tI_X11_refusalToTell selp_X11_refusalToTell tIni_X11 tY_X11_refusalToTell (by decide +kernel) ⟨by decide, by decide⟩ ⟨by decide, by decide⟩ (Nat.le_of_ble_eq_true rfl) rfl h (fun q hq => c_X11_refusalToTell N _ _ _ _ q hq) (fun q1 _ h => ?_)
  refine AW_istore_n (ls' := [some (va_rf x0), some (.int x1), some (.int x2), some (.int q1.1)]) dX11_gap_21 (c1_i rfl) (by decide) rfl ?_
  refine AW_iload_n dX11_gap_22 rfl ?_
  refine AW_if_eq (tgt := 28) dX11_gap_23 (by decide) h (fun _ h => ?_) (fun _ h => ?_)
  · refine AW_aload_n dX11_gap_28 rfl ?_
    refine AW_getR (ci := 10) (k0 := 5) (C := RX11) (T := TX11) (N := 9) dX11_gap_29 rfl (gT_u tU_X11) (by decide) (List.mem_cons_of_mem _ tF_X11_39) h (fun v2 _ h => ?_)
    refine AW_aload_n dX11_gap_32 rfl ?_
    refine AW_getR (ci := 10) (k0 := 2) (C := RX11) (T := TX11) (N := 9) dX11_gap_33 rfl (gT_u tU_X11) (by decide) (List.mem_cons_of_mem _ tF_X11_25) h (fun v3 _ h => ?_)
    refine AW_aload_n dX11_gap_36 rfl ?_
    refine AW_getR (ci := 10) (k0 := 0) (C := RX11) (T := TX11) (N := 9) dX11_gap_37 rfl (gT_u tU_X11) (by decide) (List.mem_cons_of_mem _ tF_X11_11) h (fun v4 _ h => ?_)
    refine AW_iload_n dX11_gap_40 rfl ?_
    refine AW_aald (fun _ => rfl) dX11_gap_41 h (fun v5 _ h => ?_)
    refine AW_getR (ci := 3) (k0 := 3) (C := RX3) (T := TX3) (N := 4) dX11_gap_42 rfl (gT_u tU_X3) (by decide) (List.mem_cons_of_mem _ tF_X11_75) h (fun v6 _ h => ?_)
    refine AW_callVu (y := yX10_begin) (cc := cX10_begin) (n := 3) (d := 5) (mc := 0) (ms := 0) (np := 2) (ret := none) (As := [va_rf v3, va_rf v6]) (st := []) (ci := 9) dX11_gap_45 gT_s rfl tM_X11_171 tI_X10_begin tSel_X10_X10_X10_begin tIni_X10 tY_X10_begin (by decide +kernel) ⟨by decide, by decide⟩ ⟨by decide, by decide⟩ (Nat.le_of_ble_eq_true rfl) rfl h (fun q hq => c_X10_begin N _ _ _ _ q hq) (fun q7 _ h => ?_)
    refine AW_aload_n dX11_gap_48 rfl ?_
    refine AW_aload_n dX11_gap_49 rfl ?_
    refine AW_getR (ci := 10) (k0 := 5) (C := RX11) (T := TX11) (N := 9) dX11_gap_50 rfl (gT_u tU_X11) (by decide) (List.mem_cons_of_mem _ tF_X11_39) h (fun v8 _ h => ?_)
    refine AW_iload_n dX11_gap_53 rfl ?_
    refine AW_callVi (y := yX10_sureShown) (cc := cX10_sureShown) (n := 5) (d := 3) (mc := 0) (ms := 0) (np := 1) (ret := (some .int)) (As := [.int x2]) (st := [va_rf x0]) (ci := 9) dX11_gap_54 gT_s rfl tM_X11_184 tI_X10_sureShown tSel_X10_X10_X10_sureShown tIni_X10 tY_X10_sureShown (by decide +kernel) ⟨by decide, by decide⟩ ⟨by decide, by decide⟩ (Nat.le_of_ble_eq_true rfl) rfl h (fun q hq => c_X10_sureShown N _ _ _ q hq) (fun q9 _ h => ?_)
    refine AW_callVi (y := yX11_passed) (cc := cX11_passed) (n := 2) (d := 0) (mc := 0) (ms := 0) (np := 1) (ret := (some .int)) (As := [.int q9.1]) (st := []) (ci := 10) dX11_gap_57 gT_s rfl tM_X11_64 tI_X11_passed selp_X11_passed tIni_X11 tY_X11_passed (by decide +kernel) ⟨by decide, by decide⟩ ⟨by decide, by decide⟩ (Nat.le_of_ble_eq_true rfl) rfl h (fun q hq => c_X11_passed N _ _ _ q hq) (fun q10 _ h => ?_)
    exact AW_iret dX11_gap_60 rfl ⟨Nat.zero_le _, Nat.zero_le _⟩ h
  · refine AW_iload_n dX11_gap_26 rfl ?_
    exact AW_iret dX11_gap_27 rfl ⟨Nat.zero_le _, Nat.zero_le _⟩ h
def f_X11_gap_0 (N : Nat) (A : hP) (x0 : Option Nat) (x1 : Int32) (x2 : Int32) : Option (Int32 × hP) := (oR A x0 10 2).bind fun v11 => (oCk A v11 2).bind fun _ => (f_X2_hasDay N A v11 x2).bind fun q12 => if q12.1 = (0) then (f_X11_gap_18 N q12.2 x0 x1 x2 x0 x1 (1 : Int32)) else (f_X11_gap_18 N q12.2 x0 x1 x2 x0 x1 (0 : Int32))
set_option maxRecDepth 20000 in
set_option maxHeartbeats 4000000 in
theorem t_X11_gap_0 {l : Launch} {G : gS} (N : Nat) (A : hP) (x0 : Option Nat) (x1 : Int32) (x2 : Int32) (res : Int32 × hP) (h : f_X11_gap_0 N A x0 x1 x2 = some res) : AW l mX11_gap (g_rm 6 0 0) G (g_Qf G (gi res) 0 0) A 0 0 0 [some (va_rf x0), some (.int x1), some (.int x2), none] [] := by
  unfold f_X11_gap_0 at h
  refine AW_aload_n dX11_gap_0 rfl ?_
  refine AW_iload_n dX11_gap_1 rfl ?_
  refine AW_aload_n dX11_gap_2 rfl ?_
  refine AW_getR (ci := 10) (k0 := 2) (C := RX11) (T := TX11) (N := 9) dX11_gap_3 rfl (gT_u tU_X11) (by decide) (List.mem_cons_of_mem _ tF_X11_25) h (fun v11 _ h => ?_)
  refine AW_iload_n dX11_gap_6 rfl ?_
  refine AW_callVi (y := yX2_hasDay) (cc := cX2_hasDay) (n := 2) (d := 0) (mc := 0) (ms := 0) (np := 1) (ret := (some .boolean)) (As := [.int x2]) (st := [.int x1, va_rf x0]) (ci := 2) dX11_gap_7 gT_s rfl tM_X11_142 tI_X2_hasDay tSel_X2_X2_X2_hasDay tIni_X2 tY_X2_hasDay (by decide +kernel) ⟨by decide, by decide⟩ ⟨by decide, by decide⟩ (Nat.le_of_ble_eq_true rfl) rfl h (fun q hq => c_X2_hasDay N _ _ _ q hq) (fun q12 _ h => ?_)
  refine AW_if_ne (tgt := 17) dX11_gap_10 (by decide) h (fun _ h => ?_) (fun _ h => ?_)
  · refine AW_iconst (v := 0) dX11_gap_17 (by decide) ?_
    exact (t_X11_gap_18 N _ _ _ _ _ _ _ _ h)
  · refine AW_iconst (v := 1) dX11_gap_13 (by decide) ?_
    refine AW_goto (tgt := 18) dX11_gap_14 (by decide) ?_
    exact (t_X11_gap_18 N _ _ _ _ _ _ _ _ h)
def f_X11_gap (N : Nat) (A : hP) (x0 : Option Nat) (x1 : Int32) (x2 : Int32) : Option (Int32 × hP) := f_X11_gap_0 N A x0 x1 x2
set_option maxRecDepth 20000 in
theorem c_X11_gap {l : Launch} (N : Nat) (A : hP) (x0 : Option Nat) (x1 : Int32) (x2 : Int32) (res : Int32 × hP) (h : f_X11_gap N A x0 x1 x2 = some res) : Ct l mX11_gap 6 0 0 A [va_rf x0, .int x1, .int x2] (gi res) := Ct.of (lv := [(0, va_rf x0), (1, .int x1), (2, .int x2)]) (ls := [some (va_rf x0), some (.int x1), some (.int x2), none]) (by decide) (by simp [lv_args, g_cat_rf, cat_i, cat_l]) rfl (by simp [g_cat_rf, cat_i, cat_l]) (fun G => (t_X11_gap_0 N A x0 x1 x2 res h))
abbrev mX11_wrong : gM := gMk yX11_wrong cX11_wrong 5 (some .int)
def f_X11_wrong_70 (N : Nat) (A : hP) (s0 : Option Nat) (s1 : Int32) : Option (Int32 × hP) := (oCk A s0 10).bind fun _ => (f_X11_passed N A s0 s1).bind fun q1 => some (q1.1, q1.2)
set_option maxRecDepth 20000 in
set_option maxHeartbeats 4000000 in
theorem t_X11_wrong_70 {l : Launch} {G : gS} (N : Nat) (A : hP) (s0 : Option Nat) (s1 : Int32) (res : Int32 × hP) (h : f_X11_wrong_70 N A s0 s1 = some res) : AW l mX11_wrong (g_rm 6 0 0) G (g_Qf G (gi res) 0 0) A 0 0 70 [none, none, none, none, none] [.int s1, va_rf s0] := by
  unfold f_X11_wrong_70 at h
  refine AW_callVi (y := yX11_passed) (cc := cX11_passed) (n := 2) (d := 0) (mc := 0) (ms := 0) (np := 1) (ret := (some .int)) (As := [.int s1]) (st := []) (ci := 10) dX11_wrong_70 gT_s rfl tM_X11_64 tI_X11_passed selp_X11_passed tIni_X11 tY_X11_passed (by decide +kernel) ⟨by decide, by decide⟩ ⟨by decide, by decide⟩ (Nat.le_of_ble_eq_true rfl) rfl h (fun q hq => c_X11_passed N _ _ _ q hq) (fun q1 _ h => ?_)
  exact AW_iret dX11_wrong_73 rfl ⟨Nat.zero_le _, Nat.zero_le _⟩ h
def f_X11_wrong_16 (N : Nat) (A : hP) (x0 : Option Nat) (x1 : Int32) (x2 : Int32) (s0 : Option Nat) (s1 : Int32) (s2 : Int32) : Option (Int32 × hP) := (oCk A s0 10).bind fun _ => (f_X11_refusalToTell N A s0 s1 s2).bind fun q2 => if q2.1 = (0) then ((oR q2.2 x0 10 5).bind fun v3 => (oR q2.2 x0 10 2).bind fun v4 => (oR q2.2 x0 10 0).bind fun v5 => (oQ q2.2 v5 3 x1).bind fun v6 => (oR q2.2 v6 3 3).bind fun v7 => (oCk q2.2 v3 9).bind fun _ => (f_X10_begin N q2.2 v3 v4 v7).bind fun q8 => (oR q8.2 x0 10 5).bind fun v9 => (oCk q8.2 v9 9).bind fun _ => (f_X10_fewestFalse N q8.2 v9).bind fun q10 => if x2 = (0) then ((f_J6_bitCount_0f7a4 N q10.2 q10.1).bind fun q11 => f_X11_wrong_70 N q11.2 x0 q11.1) else (f_X11_wrong_70 N q10.2 x0 q10.1)) else (some (q2.1, q2.2))
set_option maxRecDepth 20000 in
set_option maxHeartbeats 4000000 in
theorem t_X11_wrong_16 {l : Launch} {G : gS} (N : Nat) (A : hP) (x0 : Option Nat) (x1 : Int32) (x2 : Int32) (s0 : Option Nat) (s1 : Int32) (s2 : Int32) (res : Int32 × hP) (h : f_X11_wrong_16 N A x0 x1 x2 s0 s1 s2 = some res) : AW l mX11_wrong (g_rm 6 0 0) G (g_Qf G (gi res) 0 0) A 0 0 16 [some (va_rf x0), some (.int x1), some (.int x2), none, none] [.int s2, .int s1, va_rf s0] := by
  unfold f_X11_wrong_16 at h
  refine AW_callVi (y := yX11_refusalToTell) (cc := cX11_refusalToTell) (n := 5) (d := 1) (mc := 0) (ms := 0) (np := 2) (ret := (some .int)) (As := [.int s1, .int s2]) (st := []) (ci := 10) dX11_wrong_16 gT_s rfl tM_X11_167 tI_X11_refusalToTell selp_X11_refusalToTell tIni_X11 tY_X11_refusalToTell (by decide +kernel) ⟨by decide, by decide⟩ ⟨by decide, by decide⟩ (Nat.le_of_ble_eq_true rfl) rfl h (fun q hq => c_X11_refusalToTell N _ _ _ _ q hq) (fun q2 _ h => ?_)
  refine AW_istore_n (ls' := [some (va_rf x0), some (.int x1), some (.int x2), some (.int q2.1), none]) dX11_wrong_19 (c1_i rfl) (by decide) rfl ?_
  refine AW_iload_n dX11_wrong_20 rfl ?_
  refine AW_if_eq (tgt := 26) dX11_wrong_21 (by decide) h (fun _ h => ?_) (fun _ h => ?_)
  · refine AW_aload_n dX11_wrong_26 rfl ?_
    refine AW_getR (ci := 10) (k0 := 5) (C := RX11) (T := TX11) (N := 9) dX11_wrong_27 rfl (gT_u tU_X11) (by decide) (List.mem_cons_of_mem _ tF_X11_39) h (fun v3 _ h => ?_)
    refine AW_aload_n dX11_wrong_30 rfl ?_
    refine AW_getR (ci := 10) (k0 := 2) (C := RX11) (T := TX11) (N := 9) dX11_wrong_31 rfl (gT_u tU_X11) (by decide) (List.mem_cons_of_mem _ tF_X11_25) h (fun v4 _ h => ?_)
    refine AW_aload_n dX11_wrong_34 rfl ?_
    refine AW_getR (ci := 10) (k0 := 0) (C := RX11) (T := TX11) (N := 9) dX11_wrong_35 rfl (gT_u tU_X11) (by decide) (List.mem_cons_of_mem _ tF_X11_11) h (fun v5 _ h => ?_)
    refine AW_iload_n dX11_wrong_38 rfl ?_
    refine AW_aald (fun _ => rfl) dX11_wrong_39 h (fun v6 _ h => ?_)
    refine AW_getR (ci := 3) (k0 := 3) (C := RX3) (T := TX3) (N := 4) dX11_wrong_40 rfl (gT_u tU_X3) (by decide) (List.mem_cons_of_mem _ tF_X11_75) h (fun v7 _ h => ?_)
    refine AW_callVu (y := yX10_begin) (cc := cX10_begin) (n := 3) (d := 5) (mc := 0) (ms := 0) (np := 2) (ret := none) (As := [va_rf v4, va_rf v7]) (st := []) (ci := 9) dX11_wrong_43 gT_s rfl tM_X11_171 tI_X10_begin tSel_X10_X10_X10_begin tIni_X10 tY_X10_begin (by decide +kernel) ⟨by decide, by decide⟩ ⟨by decide, by decide⟩ (Nat.le_of_ble_eq_true rfl) rfl h (fun q hq => c_X10_begin N _ _ _ _ q hq) (fun q8 _ h => ?_)
    refine AW_aload_n dX11_wrong_46 rfl ?_
    refine AW_getR (ci := 10) (k0 := 5) (C := RX11) (T := TX11) (N := 9) dX11_wrong_47 rfl (gT_u tU_X11) (by decide) (List.mem_cons_of_mem _ tF_X11_39) h (fun v9 _ h => ?_)
    refine AW_callVi (y := yX10_fewestFalse) (cc := cX10_fewestFalse) (n := 6) (d := 3) (mc := 0) (ms := 0) (np := 0) (ret := (some .int)) (As := []) (st := []) (ci := 9) dX11_wrong_50 gT_s rfl tM_X11_187 tI_X10_fewestFalse tSel_X10_X10_X10_fewestFalse tIni_X10 tY_X10_fewestFalse (by decide +kernel) ⟨by decide, by decide⟩ ⟨by decide, by decide⟩ (Nat.le_of_ble_eq_true rfl) rfl h (fun q hq => c_X10_fewestFalse N _ _ q hq) (fun q10 _ h => ?_)
    refine AW_istore (ls' := [some (va_rf x0), some (.int x1), some (.int x2), some (.int q2.1), some (.int q10.1)]) dX11_wrong_53 (c1_i rfl) (by decide) rfl ?_
    refine AW_aload_n dX11_wrong_55 rfl ?_
    refine AW_iload_n dX11_wrong_56 rfl ?_
    refine AW_if_ne (tgt := 68) dX11_wrong_57 (by decide) h (fun _ h => ?_) (fun _ h => ?_)
    · refine AW_iload dX11_wrong_68 rfl ?_
      exact AW_fewer (fw_d (fw_d (fw_d (fw_d (fw_d fw_n))))) (t_X11_wrong_70 N _ _ _ _ h)
    · refine AW_iload dX11_wrong_60 rfl ?_
      refine AW_callSi (y := yJ6_bitCount_0f7a4) (cc := cJ6_bitCount_0f7a4) (n := 1) (d := 0) (mc := 0) (ms := 0) (np := 1) (ret := (some .int)) (As := [.int q10.1]) (st := [va_rf x0]) dX11_wrong_62 gT_s tM_X11_190 tS_J6_bitCount_0f7a4 tIni_J6 tY_J6_bitCount_0f7a4 (by decide +kernel) ⟨by decide, by decide⟩ ⟨by decide, by decide⟩ (Nat.le_of_ble_eq_true rfl) rfl h (fun q hq => c_J6_bitCount_0f7a4 N _ _ q hq) (fun q11 _ h => ?_)
      refine AW_goto (tgt := 70) dX11_wrong_65 (by decide) ?_
      exact AW_fewer (fw_d (fw_d (fw_d (fw_d (fw_d fw_n))))) (t_X11_wrong_70 N _ _ _ _ h)
  · refine AW_iload_n dX11_wrong_24 rfl ?_
    exact AW_iret dX11_wrong_25 rfl ⟨Nat.zero_le _, Nat.zero_le _⟩ h
def f_X11_wrong_11 (N : Nat) (A : hP) (x0 : Option Nat) (x1 : Int32) (x2 : Int32) (s0 : Option Nat) (s1 : Int32) : Option (Int32 × hP) := f_X11_wrong_16 N A x0 x1 x2 s0 s1 (1 : Int32)
set_option maxRecDepth 20000 in
set_option maxHeartbeats 4000000 in
theorem t_X11_wrong_11 {l : Launch} {G : gS} (N : Nat) (A : hP) (x0 : Option Nat) (x1 : Int32) (x2 : Int32) (s0 : Option Nat) (s1 : Int32) (res : Int32 × hP) (h : f_X11_wrong_11 N A x0 x1 x2 s0 s1 = some res) : AW l mX11_wrong (g_rm 6 0 0) G (g_Qf G (gi res) 0 0) A 0 0 11 [some (va_rf x0), some (.int x1), some (.int x2), none, none] [.int s1, va_rf s0] := by
  unfold f_X11_wrong_11 at h
  refine AW_iconst (v := 1) dX11_wrong_11 (by decide) ?_
  refine AW_goto (tgt := 16) dX11_wrong_12 (by decide) ?_
  exact (t_X11_wrong_16 N _ _ _ _ _ _ _ _ h)
def f_X11_wrong_0 (N : Nat) (A : hP) (x0 : Option Nat) (x1 : Int32) (x2 : Int32) : Option (Int32 × hP) := if x2 < (0) then (f_X11_wrong_11 N A x0 x1 x2 x0 x1) else (if x2 ≤ (1 : Int32) then (f_X11_wrong_16 N A x0 x1 x2 x0 x1 (0 : Int32)) else (f_X11_wrong_11 N A x0 x1 x2 x0 x1))
set_option maxRecDepth 20000 in
set_option maxHeartbeats 4000000 in
theorem t_X11_wrong_0 {l : Launch} {G : gS} (N : Nat) (A : hP) (x0 : Option Nat) (x1 : Int32) (x2 : Int32) (res : Int32 × hP) (h : f_X11_wrong_0 N A x0 x1 x2 = some res) : AW l mX11_wrong (g_rm 6 0 0) G (g_Qf G (gi res) 0 0) A 0 0 0 [some (va_rf x0), some (.int x1), some (.int x2), none, none] [] := by
  unfold f_X11_wrong_0 at h
  refine AW_aload_n dX11_wrong_0 rfl ?_
  refine AW_iload_n dX11_wrong_1 rfl ?_
  refine AW_iload_n dX11_wrong_2 rfl ?_
  refine AW_if_lt (tgt := 11) dX11_wrong_3 (by decide) h (fun _ h => ?_) (fun _ h => ?_)
  · exact (t_X11_wrong_11 N _ _ _ _ _ _ _ h)
  · refine AW_iload_n dX11_wrong_6 rfl ?_
    refine AW_iconst (v := 1) dX11_wrong_7 (by decide) ?_
    refine AW_icmp_le (tgt := 15) dX11_wrong_8 (by decide) h (fun _ h => ?_) (fun _ h => ?_)
    · refine AW_iconst (v := 0) dX11_wrong_15 (by decide) ?_
      exact (t_X11_wrong_16 N _ _ _ _ _ _ _ _ h)
    · exact (t_X11_wrong_11 N _ _ _ _ _ _ _ h)
def f_X11_wrong (N : Nat) (A : hP) (x0 : Option Nat) (x1 : Int32) (x2 : Int32) : Option (Int32 × hP) := f_X11_wrong_0 N A x0 x1 x2
set_option maxRecDepth 20000 in
theorem c_X11_wrong {l : Launch} (N : Nat) (A : hP) (x0 : Option Nat) (x1 : Int32) (x2 : Int32) (res : Int32 × hP) (h : f_X11_wrong N A x0 x1 x2 = some res) : Ct l mX11_wrong 6 0 0 A [va_rf x0, .int x1, .int x2] (gi res) := Ct.of (lv := [(0, va_rf x0), (1, .int x1), (2, .int x2)]) (ls := [some (va_rf x0), some (.int x1), some (.int x2), none, none]) (by decide) (by simp [lv_args, g_cat_rf, cat_i, cat_l]) rfl (by simp [g_cat_rf, cat_i, cat_l]) (fun G => (t_X11_wrong_0 N A x0 x1 x2 res h))
abbrev mX11_soon : gM := gMk yX11_soon cX11_soon 2 (some .int)
def f_X11_soon_54 (N : Nat) (A : hP) (s0 : Int32) : Option (Int32 × hP) := some (s0, A)
set_option maxRecDepth 20000 in
set_option maxHeartbeats 4000000 in
theorem t_X11_soon_54 {l : Launch} {G : gS} (N : Nat) (A : hP) (s0 : Int32) (res : Int32 × hP) (h : f_X11_soon_54 N A s0 = some res) : AW l mX11_soon (g_rm 6 0 0) G (g_Qf G (gi res) 0 0) A 0 0 54 [none, none] [.int s0] := by
  unfold f_X11_soon_54 at h
  exact AW_iret dX11_soon_54 rfl ⟨Nat.zero_le _, Nat.zero_le _⟩ h
def f_X11_soon_0 (N : Nat) (A : hP) (x0 : Option Nat) (x1 : Int32) : Option (Int32 × hP) := (oR A x0 10 2).bind fun v1 => (oI A v1 2 0).bind fun v2 => if v2 = (0) then (some ((-1000002 : Int32), A)) else (if (-1 : Int32) ≤ x1 then ((oR A x0 10 5).bind fun v3 => (oR A x0 10 2).bind fun v4 => (oCk A v3 9).bind fun _ => (f_X10_learnSoon N A v3 v4).bind fun q5 => if (0) ≤ x1 then ((oR q5.2 x0 10 5).bind fun v6 => (oCk q5.2 v6 9).bind fun _ => (f_X10_soonSet N q5.2 v6 x1).bind fun q7 => f_X11_soon_54 N q7.2 q7.1) else ((oR q5.2 x0 10 5).bind fun v8 => (oI q5.2 v8 9 0).bind fun v9 => f_X11_soon_54 N q5.2 v9)) else (some ((-1000001 : Int32), A)))
set_option maxRecDepth 20000 in
set_option maxHeartbeats 4000000 in
theorem t_X11_soon_0 {l : Launch} {G : gS} (N : Nat) (A : hP) (x0 : Option Nat) (x1 : Int32) (res : Int32 × hP) (h : f_X11_soon_0 N A x0 x1 = some res) : AW l mX11_soon (g_rm 6 0 0) G (g_Qf G (gi res) 0 0) A 0 0 0 [some (va_rf x0), some (.int x1)] [] := by
  unfold f_X11_soon_0 at h
  refine AW_aload_n dX11_soon_0 rfl ?_
  refine AW_getR (ci := 10) (k0 := 2) (C := RX11) (T := TX11) (N := 9) dX11_soon_1 rfl (gT_u tU_X11) (by decide) (List.mem_cons_of_mem _ tF_X11_25) h (fun v1 _ h => ?_)
  refine AW_getI (ci := 2) (k0 := 0) (C := RX2) (T := TX2) (N := 11) dX11_soon_4 rfl (gT_u tU_X2) (by decide) (List.mem_cons_of_mem _ tF_X11_130) h (fun v2 _ h => ?_)
  refine AW_if_ne (tgt := 13) dX11_soon_7 (by decide) h (fun _ h => ?_) (fun _ h => ?_)
  · refine AW_iload_n dX11_soon_13 rfl ?_
    refine AW_iconst (v := -1) dX11_soon_14 (by decide) ?_
    refine AW_icmp_ge (tgt := 21) dX11_soon_15 (by decide) h (fun _ h => ?_) (fun _ h => ?_)
    · refine AW_aload_n dX11_soon_21 rfl ?_
      refine AW_getR (ci := 10) (k0 := 5) (C := RX11) (T := TX11) (N := 9) dX11_soon_22 rfl (gT_u tU_X11) (by decide) (List.mem_cons_of_mem _ tF_X11_39) h (fun v3 _ h => ?_)
      refine AW_aload_n dX11_soon_25 rfl ?_
      refine AW_getR (ci := 10) (k0 := 2) (C := RX11) (T := TX11) (N := 9) dX11_soon_26 rfl (gT_u tU_X11) (by decide) (List.mem_cons_of_mem _ tF_X11_25) h (fun v4 _ h => ?_)
      refine AW_callVu (y := yX10_learnSoon) (cc := cX10_learnSoon) (n := 4) (d := 5) (mc := 0) (ms := 0) (np := 1) (ret := none) (As := [va_rf v4]) (st := []) (ci := 9) dX11_soon_29 gT_s rfl tM_X11_195 tI_X10_learnSoon tSel_X10_X10_X10_learnSoon tIni_X10 tY_X10_learnSoon (by decide +kernel) ⟨by decide, by decide⟩ ⟨by decide, by decide⟩ (Nat.le_of_ble_eq_true rfl) rfl h (fun q hq => c_X10_learnSoon N _ _ _ q hq) (fun q5 _ h => ?_)
      refine AW_iload_n dX11_soon_32 rfl ?_
      refine AW_if_ge (tgt := 46) dX11_soon_33 (by decide) h (fun _ h => ?_) (fun _ h => ?_)
      · refine AW_aload_n dX11_soon_46 rfl ?_
        refine AW_getR (ci := 10) (k0 := 5) (C := RX11) (T := TX11) (N := 9) dX11_soon_47 rfl (gT_u tU_X11) (by decide) (List.mem_cons_of_mem _ tF_X11_39) h (fun v6 _ h => ?_)
        refine AW_iload_n dX11_soon_50 rfl ?_
        refine AW_callVi (y := yX10_soonSet) (cc := cX10_soonSet) (n := 2) (d := 0) (mc := 0) (ms := 0) (np := 1) (ret := (some .int)) (As := [.int x1]) (st := []) (ci := 9) dX11_soon_51 gT_s rfl tM_X11_201 tI_X10_soonSet tSel_X10_X10_X10_soonSet tIni_X10 tY_X10_soonSet (by decide +kernel) ⟨by decide, by decide⟩ ⟨by decide, by decide⟩ (Nat.le_of_ble_eq_true rfl) rfl h (fun q hq => c_X10_soonSet N _ _ _ q hq) (fun q7 _ h => ?_)
        exact AW_fewer (fw_d (fw_d fw_n)) (t_X11_soon_54 N _ _ _ h)
      · refine AW_aload_n dX11_soon_36 rfl ?_
        refine AW_getR (ci := 10) (k0 := 5) (C := RX11) (T := TX11) (N := 9) dX11_soon_37 rfl (gT_u tU_X11) (by decide) (List.mem_cons_of_mem _ tF_X11_39) h (fun v8 _ h => ?_)
        refine AW_getI (ci := 9) (k0 := 0) (C := RX10) (T := TX10) (N := 13) dX11_soon_40 rfl (gT_u tU_X10) (by decide) (List.mem_cons_of_mem _ tF_X11_198) h (fun v9 _ h => ?_)
        refine AW_goto (tgt := 54) dX11_soon_43 (by decide) ?_
        exact AW_fewer (fw_d (fw_d fw_n)) (t_X11_soon_54 N _ _ _ h)
    · refine AW_ldc (v := -1000001) dX11_soon_18 (List.mem_cons_of_mem _ tK_X11_55) ?_
      exact AW_iret dX11_soon_20 rfl ⟨Nat.zero_le _, Nat.zero_le _⟩ h
  · refine AW_ldc (v := -1000002) dX11_soon_10 (List.mem_cons_of_mem _ tK_X11_131) ?_
    exact AW_iret dX11_soon_12 rfl ⟨Nat.zero_le _, Nat.zero_le _⟩ h
def f_X11_soon (N : Nat) (A : hP) (x0 : Option Nat) (x1 : Int32) : Option (Int32 × hP) := f_X11_soon_0 N A x0 x1
set_option maxRecDepth 20000 in
theorem c_X11_soon {l : Launch} (N : Nat) (A : hP) (x0 : Option Nat) (x1 : Int32) (res : Int32 × hP) (h : f_X11_soon N A x0 x1 = some res) : Ct l mX11_soon 6 0 0 A [va_rf x0, .int x1] (gi res) := Ct.of (lv := [(0, va_rf x0), (1, .int x1)]) (ls := [some (va_rf x0), some (.int x1)]) (by decide) (by simp [lv_args, g_cat_rf, cat_i, cat_l]) rfl (by simp [g_cat_rf, cat_i, cat_l]) (fun G => (t_X11_soon_0 N A x0 x1 res h))
abbrev mX11_laws : gM := gMk yX11_laws cX11_laws 3 (some .int)
def f_X11_laws_35 (N : Nat) (A : hP) (s0 : Int32) : Option (Int32 × hP) := some (s0, A)
set_option maxRecDepth 20000 in
set_option maxHeartbeats 4000000 in
theorem t_X11_laws_35 {l : Launch} {G : gS} (N : Nat) (A : hP) (s0 : Int32) (res : Int32 × hP) (h : f_X11_laws_35 N A s0 = some res) : AW l mX11_laws (g_rm 5 0 0) G (g_Qf G (gi res) 0 0) A 0 0 35 [none, none, none] [.int s0] := by
  unfold f_X11_laws_35 at h
  exact AW_iret dX11_laws_35 rfl ⟨Nat.zero_le _, Nat.zero_le _⟩ h
def f_X11_laws_0 (N : Nat) (A : hP) (x0 : Option Nat) (x1 : Int32) : Option (Int32 × hP) := (oCk A x0 10).bind fun _ => (f_X11_refusalToTell N A x0 x1 (0 : Int32)).bind fun q1 => if q1.1 = (0) then ((oR q1.2 x0 10 2).bind fun v2 => (oR q1.2 x0 10 0).bind fun v3 => (oQ q1.2 v3 3 x1).bind fun v4 => (oR q1.2 v4 3 3).bind fun v5 => (oCk q1.2 v2 2).bind fun _ => (f_X2_lawsTelling N q1.2 v2 v5).bind fun q6 => (oCk q6.2 x0 10).bind fun _ => (f_X11_passed N q6.2 x0 q6.1).bind fun q7 => f_X11_laws_35 N q7.2 q7.1) else (f_X11_laws_35 N q1.2 q1.1)
set_option maxRecDepth 20000 in
set_option maxHeartbeats 4000000 in
theorem t_X11_laws_0 {l : Launch} {G : gS} (N : Nat) (A : hP) (x0 : Option Nat) (x1 : Int32) (res : Int32 × hP) (h : f_X11_laws_0 N A x0 x1 = some res) : AW l mX11_laws (g_rm 5 0 0) G (g_Qf G (gi res) 0 0) A 0 0 0 [some (va_rf x0), some (.int x1), none] [] := by
  unfold f_X11_laws_0 at h
  refine AW_aload_n dX11_laws_0 rfl ?_
  refine AW_iload_n dX11_laws_1 rfl ?_
  refine AW_iconst (v := 0) dX11_laws_2 (by decide) ?_
  refine AW_callVi (y := yX11_refusalToTell) (cc := cX11_refusalToTell) (n := 5) (d := 1) (mc := 0) (ms := 0) (np := 2) (ret := (some .int)) (As := [.int x1, .int (0 : Int32)]) (st := []) (ci := 10) dX11_laws_3 gT_s rfl tM_X11_167 tI_X11_refusalToTell selp_X11_refusalToTell tIni_X11 tY_X11_refusalToTell (by decide +kernel) ⟨by decide, by decide⟩ ⟨by decide, by decide⟩ (Nat.le_of_ble_eq_true rfl) rfl h (fun q hq => c_X11_refusalToTell N _ _ _ _ q hq) (fun q1 _ h => ?_)
  refine AW_istore_n (ls' := [some (va_rf x0), some (.int x1), some (.int q1.1)]) dX11_laws_6 (c1_i rfl) (by decide) rfl ?_
  refine AW_iload_n dX11_laws_7 rfl ?_
  refine AW_if_eq (tgt := 15) dX11_laws_8 (by decide) h (fun _ h => ?_) (fun _ h => ?_)
  · refine AW_aload_n dX11_laws_15 rfl ?_
    refine AW_aload_n dX11_laws_16 rfl ?_
    refine AW_getR (ci := 10) (k0 := 2) (C := RX11) (T := TX11) (N := 9) dX11_laws_17 rfl (gT_u tU_X11) (by decide) (List.mem_cons_of_mem _ tF_X11_25) h (fun v2 _ h => ?_)
    refine AW_aload_n dX11_laws_20 rfl ?_
    refine AW_getR (ci := 10) (k0 := 0) (C := RX11) (T := TX11) (N := 9) dX11_laws_21 rfl (gT_u tU_X11) (by decide) (List.mem_cons_of_mem _ tF_X11_11) h (fun v3 _ h => ?_)
    refine AW_iload_n dX11_laws_24 rfl ?_
    refine AW_aald (fun _ => rfl) dX11_laws_25 h (fun v4 _ h => ?_)
    refine AW_getR (ci := 3) (k0 := 3) (C := RX3) (T := TX3) (N := 4) dX11_laws_26 rfl (gT_u tU_X3) (by decide) (List.mem_cons_of_mem _ tF_X11_75) h (fun v5 _ h => ?_)
    refine AW_callVi (y := yX2_lawsTelling) (cc := cX2_lawsTelling) (n := 4) (d := 4) (mc := 0) (ms := 0) (np := 1) (ret := (some .int)) (As := [va_rf v5]) (st := [va_rf x0]) (ci := 2) dX11_laws_29 gT_s rfl tM_X11_204 tI_X2_lawsTelling tSel_X2_X2_X2_lawsTelling tIni_X2 tY_X2_lawsTelling (by decide +kernel) ⟨by decide, by decide⟩ ⟨by decide, by decide⟩ (Nat.le_of_ble_eq_true rfl) rfl h (fun q hq => c_X2_lawsTelling N _ _ _ q hq) (fun q6 _ h => ?_)
    refine AW_callVi (y := yX11_passed) (cc := cX11_passed) (n := 2) (d := 0) (mc := 0) (ms := 0) (np := 1) (ret := (some .int)) (As := [.int q6.1]) (st := []) (ci := 10) dX11_laws_32 gT_s rfl tM_X11_64 tI_X11_passed selp_X11_passed tIni_X11 tY_X11_passed (by decide +kernel) ⟨by decide, by decide⟩ ⟨by decide, by decide⟩ (Nat.le_of_ble_eq_true rfl) rfl h (fun q hq => c_X11_passed N _ _ _ q hq) (fun q7 _ h => ?_)
    exact AW_fewer (fw_d (fw_d (fw_d fw_n))) (t_X11_laws_35 N _ _ _ h)
  · refine AW_iload_n dX11_laws_11 rfl ?_
    refine AW_goto (tgt := 35) dX11_laws_12 (by decide) ?_
    exact AW_fewer (fw_d (fw_d (fw_d fw_n))) (t_X11_laws_35 N _ _ _ h)
def f_X11_laws (N : Nat) (A : hP) (x0 : Option Nat) (x1 : Int32) : Option (Int32 × hP) := f_X11_laws_0 N A x0 x1
set_option maxRecDepth 20000 in
theorem c_X11_laws {l : Launch} (N : Nat) (A : hP) (x0 : Option Nat) (x1 : Int32) (res : Int32 × hP) (h : f_X11_laws N A x0 x1 = some res) : Ct l mX11_laws 5 0 0 A [va_rf x0, .int x1] (gi res) := Ct.of (lv := [(0, va_rf x0), (1, .int x1)]) (ls := [some (va_rf x0), some (.int x1), none]) (by decide) (by simp [lv_args, g_cat_rf, cat_i, cat_l]) rfl (by simp [g_cat_rf, cat_i, cat_l]) (fun G => (t_X11_laws_0 N A x0 x1 res h))
abbrev mX11_error : gM := gMk yX11_error cX11_error 2 (some .int)
def f_X11_error_24 (N : Nat) (A : hP) (s0 : Int32) : Option (Int32 × hP) := some (s0, A)
set_option maxRecDepth 20000 in
set_option maxHeartbeats 4000000 in
theorem t_X11_error_24 {l : Launch} {G : gS} (N : Nat) (A : hP) (s0 : Int32) (res : Int32 × hP) (h : f_X11_error_24 N A s0 = some res) : AW l mX11_error (g_rm 5 0 0) G (g_Qf G (gi res) 0 0) A 0 0 24 [none, none] [.int s0] := by
  unfold f_X11_error_24 at h
  exact AW_iret dX11_error_24 rfl ⟨Nat.zero_le _, Nat.zero_le _⟩ h
def f_X11_error_0 (N : Nat) (A : hP) (x0 : Option Nat) (x1 : Int32) : Option (Int32 × hP) := (oR A x0 10 2).bind fun v1 => (oCk A v1 2).bind fun _ => (f_X2_hasDay N A v1 x1).bind fun q2 => if q2.1 = (0) then (f_X11_error_24 N q2.2 (-1000001 : Int32)) else ((oR q2.2 x0 10 2).bind fun v3 => (oCk q2.2 v3 2).bind fun _ => (f_X2_changedBy N q2.2 v3 x1).bind fun q4 => f_X11_error_24 N q4.2 q4.1)
set_option maxRecDepth 20000 in
set_option maxHeartbeats 4000000 in
theorem t_X11_error_0 {l : Launch} {G : gS} (N : Nat) (A : hP) (x0 : Option Nat) (x1 : Int32) (res : Int32 × hP) (h : f_X11_error_0 N A x0 x1 = some res) : AW l mX11_error (g_rm 5 0 0) G (g_Qf G (gi res) 0 0) A 0 0 0 [some (va_rf x0), some (.int x1)] [] := by
  unfold f_X11_error_0 at h
  refine AW_aload_n dX11_error_0 rfl ?_
  refine AW_getR (ci := 10) (k0 := 2) (C := RX11) (T := TX11) (N := 9) dX11_error_1 rfl (gT_u tU_X11) (by decide) (List.mem_cons_of_mem _ tF_X11_25) h (fun v1 _ h => ?_)
  refine AW_iload_n dX11_error_4 rfl ?_
  refine AW_callVi (y := yX2_hasDay) (cc := cX2_hasDay) (n := 2) (d := 0) (mc := 0) (ms := 0) (np := 1) (ret := (some .boolean)) (As := [.int x1]) (st := []) (ci := 2) dX11_error_5 gT_s rfl tM_X11_142 tI_X2_hasDay tSel_X2_X2_X2_hasDay tIni_X2 tY_X2_hasDay (by decide +kernel) ⟨by decide, by decide⟩ ⟨by decide, by decide⟩ (Nat.le_of_ble_eq_true rfl) rfl h (fun q hq => c_X2_hasDay N _ _ _ q hq) (fun q2 _ h => ?_)
  refine AW_if_eq (tgt := 22) dX11_error_8 (by decide) h (fun _ h => ?_) (fun _ h => ?_)
  · refine AW_ldc (v := -1000001) dX11_error_22 (List.mem_cons_of_mem _ tK_X11_55) ?_
    exact AW_fewer (fw_d (fw_d fw_n)) (t_X11_error_24 N _ _ _ h)
  · refine AW_aload_n dX11_error_11 rfl ?_
    refine AW_getR (ci := 10) (k0 := 2) (C := RX11) (T := TX11) (N := 9) dX11_error_12 rfl (gT_u tU_X11) (by decide) (List.mem_cons_of_mem _ tF_X11_25) h (fun v3 _ h => ?_)
    refine AW_iload_n dX11_error_15 rfl ?_
    refine AW_callVi (y := yX2_changedBy) (cc := cX2_changedBy) (n := 4) (d := 4) (mc := 0) (ms := 0) (np := 1) (ret := (some .int)) (As := [.int x1]) (st := []) (ci := 2) dX11_error_16 gT_s rfl tM_X11_208 tI_X2_changedBy tSel_X2_X2_X2_changedBy tIni_X2 tY_X2_changedBy (by decide +kernel) ⟨by decide, by decide⟩ ⟨by decide, by decide⟩ (Nat.le_of_ble_eq_true rfl) rfl h (fun q hq => c_X2_changedBy N _ _ _ q hq) (fun q4 _ h => ?_)
    refine AW_goto (tgt := 24) dX11_error_19 (by decide) ?_
    exact AW_fewer (fw_d (fw_d fw_n)) (t_X11_error_24 N _ _ _ h)
def f_X11_error (N : Nat) (A : hP) (x0 : Option Nat) (x1 : Int32) : Option (Int32 × hP) := f_X11_error_0 N A x0 x1
set_option maxRecDepth 20000 in
theorem c_X11_error {l : Launch} (N : Nat) (A : hP) (x0 : Option Nat) (x1 : Int32) (res : Int32 × hP) (h : f_X11_error N A x0 x1 = some res) : Ct l mX11_error 5 0 0 A [va_rf x0, .int x1] (gi res) := Ct.of (lv := [(0, va_rf x0), (1, .int x1)]) (ls := [some (va_rf x0), some (.int x1)]) (by decide) (by simp [lv_args, g_cat_rf, cat_i, cat_l]) rfl (by simp [g_cat_rf, cat_i, cat_l]) (fun G => (t_X11_error_0 N A x0 x1 res h))
abbrev mX11_sold : gM := gMk yX11_sold cX11_sold 5 (some .int)
def f_X11_sold_41 (N : Nat) (A : hP) : Option (Int32 × hP) := some ((-1000001 : Int32), A)
set_option maxRecDepth 20000 in
set_option maxHeartbeats 4000000 in
theorem t_X11_sold_41 {l : Launch} {G : gS} (N : Nat) (A : hP) (res : Int32 × hP) (h : f_X11_sold_41 N A  = some res) : AW l mX11_sold (g_rm 4 0 0) G (g_Qf G (gi res) 0 0) A 0 0 41 [none, none, none, none, none] [] := by
  unfold f_X11_sold_41 at h
  refine AW_ldc (v := -1000001) dX11_sold_41 (List.mem_cons_of_mem _ tK_X11_55) ?_
  exact AW_iret dX11_sold_43 rfl ⟨Nat.zero_le _, Nat.zero_le _⟩ h
def f_X11_sold_0 (N : Nat) (A : hP) (x0 : Option Nat) (x1 : Int32) (x2 : Int32) : Option (Int32 × hP) := (oR A x0 10 2).bind fun v1 => (oCk A v1 2).bind fun _ => (f_X2_thingAt N A v1 x1).bind fun q2 => if q2.1 = none then (f_X11_sold_41 N q2.2) else (if x2 < (1 : Int32) then (f_X11_sold_41 N q2.2) else ((oR q2.2 x0 10 2).bind fun v3 => (oCk q2.2 v3 2).bind fun _ => (f_X2_hasDay N q2.2 v3 x2).bind fun q4 => if q4.1 = (0) then (f_X11_sold_41 N q4.2) else ((oR q4.2 x0 10 2).bind fun v5 => (oCk q4.2 v5 2).bind fun _ => (f_X2_liesOn N q4.2 v5 x1 x2).bind fun q6 => if q6.1 = (0) then (f_X11_sold_41 N q6.2) else ((oR q6.2 x0 10 2).bind fun v7 => (oCk q6.2 v7 2).bind fun _ => (f_X2_shownOn N q6.2 v7 x2).bind fun q8 => (oR q8.2 x0 10 2).bind fun v9 => (oCk q8.2 v9 2).bind fun _ => (f_X2_shownOn N q8.2 v9 (x2 - (1 : Int32))).bind fun q10 => (oT q10.2 q2.1 1).bind fun v11 => (v_X7_heavyWith N q10.2 q2.1 v11 x2).bind fun q12 => some ((q8.1 - q10.1) - q12.1, q12.2)))))
set_option maxRecDepth 20000 in
set_option maxHeartbeats 4000000 in
theorem t_X11_sold_0 {l : Launch} {G : gS} (N : Nat) (A : hP) (x0 : Option Nat) (x1 : Int32) (x2 : Int32) (res : Int32 × hP) (h : f_X11_sold_0 N A x0 x1 x2 = some res) : AW l mX11_sold (g_rm 4 0 0) G (g_Qf G (gi res) 0 0) A 0 0 0 [some (va_rf x0), some (.int x1), some (.int x2), none, none] [] := by
  unfold f_X11_sold_0 at h
  refine AW_aload_n dX11_sold_0 rfl ?_
  refine AW_getR (ci := 10) (k0 := 2) (C := RX11) (T := TX11) (N := 9) dX11_sold_1 rfl (gT_u tU_X11) (by decide) (List.mem_cons_of_mem _ tF_X11_25) h (fun v1 _ h => ?_)
  refine AW_iload_n dX11_sold_4 rfl ?_
  refine AW_callVr (y := yX2_thingAt) (cc := cX2_thingAt) (n := 2) (d := 0) (mc := 0) (ms := 0) (np := 1) (ret := (some (.object "YesterdayScale$Thing"))) (As := [.int x1]) (st := []) (ci := 2) dX11_sold_5 gT_s rfl tM_X11_154 tI_X2_thingAt tSel_X2_X2_X2_thingAt tIni_X2 tY_X2_thingAt (by decide +kernel) ⟨by decide, by decide⟩ ⟨by decide, by decide⟩ (Nat.le_of_ble_eq_true rfl) rfl h (fun q hq => c_X2_thingAt N _ _ _ q hq) (fun q2 _ h => ?_)
  refine AW_astore_n (ls' := [some (va_rf x0), some (.int x1), some (.int x2), some (va_rf q2.1), none]) dX11_sold_8 (c1_i rfl) (by decide) rfl ?_
  refine AW_aload_n dX11_sold_9 rfl ?_
  refine AW_ifnull (tgt := 41) dX11_sold_10 (by decide) h (fun _ h => ?_) (fun _ h => ?_)
  · exact AW_fewer (fw_d (fw_d (fw_d (fw_d (fw_k fw_n))))) (t_X11_sold_41 N _ _ h)
  · refine AW_iload_n dX11_sold_13 rfl ?_
    refine AW_iconst (v := 1) dX11_sold_14 (by decide) ?_
    refine AW_icmp_lt (tgt := 41) dX11_sold_15 (by decide) h (fun _ h => ?_) (fun _ h => ?_)
    · exact AW_fewer (fw_d (fw_d (fw_d (fw_d (fw_k fw_n))))) (t_X11_sold_41 N _ _ h)
    · refine AW_aload_n dX11_sold_18 rfl ?_
      refine AW_getR (ci := 10) (k0 := 2) (C := RX11) (T := TX11) (N := 9) dX11_sold_19 rfl (gT_u tU_X11) (by decide) (List.mem_cons_of_mem _ tF_X11_25) h (fun v3 _ h => ?_)
      refine AW_iload_n dX11_sold_22 rfl ?_
      refine AW_callVi (y := yX2_hasDay) (cc := cX2_hasDay) (n := 2) (d := 0) (mc := 0) (ms := 0) (np := 1) (ret := (some .boolean)) (As := [.int x2]) (st := []) (ci := 2) dX11_sold_23 gT_s rfl tM_X11_142 tI_X2_hasDay tSel_X2_X2_X2_hasDay tIni_X2 tY_X2_hasDay (by decide +kernel) ⟨by decide, by decide⟩ ⟨by decide, by decide⟩ (Nat.le_of_ble_eq_true rfl) rfl h (fun q hq => c_X2_hasDay N _ _ _ q hq) (fun q4 _ h => ?_)
      refine AW_if_eq (tgt := 41) dX11_sold_26 (by decide) h (fun _ h => ?_) (fun _ h => ?_)
      · exact AW_fewer (fw_d (fw_d (fw_d (fw_d (fw_k fw_n))))) (t_X11_sold_41 N _ _ h)
      · refine AW_aload_n dX11_sold_29 rfl ?_
        refine AW_getR (ci := 10) (k0 := 2) (C := RX11) (T := TX11) (N := 9) dX11_sold_30 rfl (gT_u tU_X11) (by decide) (List.mem_cons_of_mem _ tF_X11_25) h (fun v5 _ h => ?_)
        refine AW_iload_n dX11_sold_33 rfl ?_
        refine AW_iload_n dX11_sold_34 rfl ?_
        refine AW_callVi (y := yX2_liesOn) (cc := cX2_liesOn) (n := 3) (d := 0) (mc := 0) (ms := 0) (np := 2) (ret := (some .boolean)) (As := [.int x1, .int x2]) (st := []) (ci := 2) dX11_sold_35 gT_s rfl tM_X11_211 tI_X2_liesOn tSel_X2_X2_X2_liesOn tIni_X2 tY_X2_liesOn (by decide +kernel) ⟨by decide, by decide⟩ ⟨by decide, by decide⟩ (Nat.le_of_ble_eq_true rfl) rfl h (fun q hq => c_X2_liesOn N _ _ _ _ q hq) (fun q6 _ h => ?_)
        refine AW_if_ne (tgt := 44) dX11_sold_38 (by decide) h (fun _ h => ?_) (fun _ h => ?_)
        · refine AW_aload_n dX11_sold_44 rfl ?_
          refine AW_getR (ci := 10) (k0 := 2) (C := RX11) (T := TX11) (N := 9) dX11_sold_45 rfl (gT_u tU_X11) (by decide) (List.mem_cons_of_mem _ tF_X11_25) h (fun v7 _ h => ?_)
          refine AW_iload_n dX11_sold_48 rfl ?_
          refine AW_callVi (y := yX2_shownOn) (cc := cX2_shownOn) (n := 2) (d := 3) (mc := 0) (ms := 0) (np := 1) (ret := (some .int)) (As := [.int x2]) (st := []) (ci := 2) dX11_sold_49 gT_s rfl tM_X11_139 tI_X2_shownOn tSel_X2_X2_X2_shownOn tIni_X2 tY_X2_shownOn (by decide +kernel) ⟨by decide, by decide⟩ ⟨by decide, by decide⟩ (Nat.le_of_ble_eq_true rfl) rfl h (fun q hq => c_X2_shownOn N _ _ _ q hq) (fun q8 _ h => ?_)
          refine AW_aload_n dX11_sold_52 rfl ?_
          refine AW_getR (ci := 10) (k0 := 2) (C := RX11) (T := TX11) (N := 9) dX11_sold_53 rfl (gT_u tU_X11) (by decide) (List.mem_cons_of_mem _ tF_X11_25) h (fun v9 _ h => ?_)
          refine AW_iload_n dX11_sold_56 rfl ?_
          refine AW_iconst (v := 1) dX11_sold_57 (by decide) ?_
          refine AW_isub dX11_sold_58 ?_
          refine AW_callVi (y := yX2_shownOn) (cc := cX2_shownOn) (n := 2) (d := 3) (mc := 0) (ms := 0) (np := 1) (ret := (some .int)) (As := [.int (x2 - (1 : Int32))]) (st := [.int q8.1]) (ci := 2) dX11_sold_59 gT_s rfl tM_X11_139 tI_X2_shownOn tSel_X2_X2_X2_shownOn tIni_X2 tY_X2_shownOn (by decide +kernel) ⟨by decide, by decide⟩ ⟨by decide, by decide⟩ (Nat.le_of_ble_eq_true rfl) rfl h (fun q hq => c_X2_shownOn N _ _ _ q hq) (fun q10 _ h => ?_)
          refine AW_isub dX11_sold_62 ?_
          refine AW_istore (ls' := [some (va_rf x0), some (.int x1), some (.int x2), some (va_rf q2.1), some (.int (q8.1 - q10.1))]) dX11_sold_63 (c1_r rfl) (by decide) rfl ?_
          refine AW_iload dX11_sold_65 rfl ?_
          refine AW_aload_n dX11_sold_67 rfl ?_
          refine AW_aload_n dX11_sold_68 rfl ?_
          refine AW_getT (nm := "weight") (by decide) gT_s dX11_sold_69 (List.mem_cons_of_mem _ tF_X11_158) h (fun v11 _ h => ?_)
          refine AW_iload_n dX11_sold_72 rfl ?_
          refine AW_v_X7_heavyWith N dX11_sold_73 gT_s tM_X11_163 (by decide) (by decide) (Nat.le_of_ble_eq_true rfl) h (fun q12 h => ?_)
          refine AW_isub dX11_sold_76 ?_
          exact AW_iret dX11_sold_77 rfl ⟨Nat.zero_le _, Nat.zero_le _⟩ h
        · exact AW_fewer (fw_d (fw_d (fw_d (fw_d (fw_k fw_n))))) (t_X11_sold_41 N _ _ h)
def f_X11_sold (N : Nat) (A : hP) (x0 : Option Nat) (x1 : Int32) (x2 : Int32) : Option (Int32 × hP) := f_X11_sold_0 N A x0 x1 x2
set_option maxRecDepth 20000 in
theorem c_X11_sold {l : Launch} (N : Nat) (A : hP) (x0 : Option Nat) (x1 : Int32) (x2 : Int32) (res : Int32 × hP) (h : f_X11_sold N A x0 x1 x2 = some res) : Ct l mX11_sold 4 0 0 A [va_rf x0, .int x1, .int x2] (gi res) := Ct.of (lv := [(0, va_rf x0), (1, .int x1), (2, .int x2)]) (ls := [some (va_rf x0), some (.int x1), some (.int x2), none, none]) (by decide) (by simp [lv_args, g_cat_rf, cat_i, cat_l]) rfl (by simp [g_cat_rf, cat_i, cat_l]) (fun G => (t_X11_sold_0 N A x0 x1 x2 res h))
abbrev mX11_isImage : gM := gMk yX11_isImage cX11_isImage 1 (some .boolean)
def f_X11_isImage_14 (N : Nat) (A : hP) (s0 : Int32) : Option (Int32 × hP) := if s0 = 0 ∨ s0 = 1 then some (s0, A) else none
set_option maxRecDepth 20000 in
set_option maxHeartbeats 4000000 in
theorem t_X11_isImage_14 {l : Launch} {G : gS} (N : Nat) (A : hP) (s0 : Int32) (res : Int32 × hP) (h : f_X11_isImage_14 N A s0 = some res) : AW l mX11_isImage (g_rm 0 0 0) G (g_Qf G (gi res) 0 0) A 0 0 14 [none] [.int s0] := by
  unfold f_X11_isImage_14 at h
  exact AW_zret dX11_isImage_14 rfl ⟨Nat.zero_le _, Nat.zero_le _⟩ h
def f_X11_isImage_13 (N : Nat) (A : hP) : Option (Int32 × hP) := f_X11_isImage_14 N A (0 : Int32)
set_option maxRecDepth 20000 in
set_option maxHeartbeats 4000000 in
theorem t_X11_isImage_13 {l : Launch} {G : gS} (N : Nat) (A : hP) (res : Int32 × hP) (h : f_X11_isImage_13 N A  = some res) : AW l mX11_isImage (g_rm 0 0 0) G (g_Qf G (gi res) 0 0) A 0 0 13 [none] [] := by
  unfold f_X11_isImage_13 at h
  refine AW_iconst (v := 0) dX11_isImage_13 (by decide) ?_
  exact (t_X11_isImage_14 N _ _ _ h)
def f_X11_isImage_0 (N : Nat) (A : hP) (x0 : Int32) : Option (Int32 × hP) := if x0 < (0) then (f_X11_isImage_13 N A) else (if (2 : Int32) ≤ x0 then (f_X11_isImage_13 N A) else (f_X11_isImage_14 N A (1 : Int32)))
set_option maxRecDepth 20000 in
set_option maxHeartbeats 4000000 in
theorem t_X11_isImage_0 {l : Launch} {G : gS} (N : Nat) (A : hP) (x0 : Int32) (res : Int32 × hP) (h : f_X11_isImage_0 N A x0 = some res) : AW l mX11_isImage (g_rm 0 0 0) G (g_Qf G (gi res) 0 0) A 0 0 0 [some (.int x0)] [] := by
  unfold f_X11_isImage_0 at h
  refine AW_iload_n dX11_isImage_0 rfl ?_
  refine AW_if_lt (tgt := 13) dX11_isImage_1 (by decide) h (fun _ h => ?_) (fun _ h => ?_)
  · exact AW_fewer (fw_d fw_n) (t_X11_isImage_13 N _ _ h)
  · refine AW_iload_n dX11_isImage_4 rfl ?_
    refine AW_iconst (v := 2) dX11_isImage_5 (by decide) ?_
    refine AW_icmp_ge (tgt := 13) dX11_isImage_6 (by decide) h (fun _ h => ?_) (fun _ h => ?_)
    · exact AW_fewer (fw_d fw_n) (t_X11_isImage_13 N _ _ h)
    · refine AW_iconst (v := 1) dX11_isImage_9 (by decide) ?_
      refine AW_goto (tgt := 14) dX11_isImage_10 (by decide) ?_
      exact AW_fewer (fw_d fw_n) (t_X11_isImage_14 N _ _ _ h)
def f_X11_isImage (N : Nat) (A : hP) (x0 : Int32) : Option (Int32 × hP) := f_X11_isImage_0 N A x0
set_option maxRecDepth 20000 in
theorem c_X11_isImage {l : Launch} (N : Nat) (A : hP) (x0 : Int32) (res : Int32 × hP) (h : f_X11_isImage N A x0 = some res) : Ct l mX11_isImage 0 0 0 A [.int x0] (gi res) := Ct.of (lv := [(0, .int x0)]) (ls := [some (.int x0)]) (by decide) (by simp [lv_args, g_cat_rf, cat_i, cat_l]) rfl (by simp [g_cat_rf, cat_i, cat_l]) (fun G => (t_X11_isImage_0 N A x0 res h))
abbrev mX11_image : gM := gMk yX11_image cX11_image 2 (some .int)
def f_X11_image_0 (N : Nat) (A : hP) (x0 : Option Nat) (x1 : Int32) : Option (Int32 × hP) := (f_X11_isImage N A x1).bind fun q1 => if q1.1 = (0) then (some ((-1000001 : Int32), q1.2)) else ((oR q1.2 x0 10 2).bind fun v2 => (oI q1.2 v2 2 0).bind fun v3 => if v3 = (0) then (some ((-1000002 : Int32), q1.2)) else ((oR q1.2 x0 10 4).bind fun v4 => (oQ q1.2 v4 4 x1).bind fun v5 => (oR q1.2 x0 10 2).bind fun v6 => (oCk q1.2 v5 2).bind fun _ => (f_X2_become N q1.2 v5 v6).bind fun q7 => some ((1 : Int32), q7.2)))
set_option maxRecDepth 20000 in
set_option maxHeartbeats 4000000 in
theorem t_X11_image_0 {l : Launch} {G : gS} (N : Nat) (A : hP) (x0 : Option Nat) (x1 : Int32) (res : Int32 × hP) (h : f_X11_image_0 N A x0 x1 = some res) : AW l mX11_image (g_rm 2 0 0) G (g_Qf G (gi res) 0 0) A 0 0 0 [some (va_rf x0), some (.int x1)] [] := by
  unfold f_X11_image_0 at h
  refine AW_iload_n dX11_image_0 rfl ?_
  refine AW_callSi (y := yX11_isImage) (cc := cX11_isImage) (n := 1) (d := 0) (mc := 0) (ms := 0) (np := 1) (ret := (some .boolean)) (As := [.int x1]) (st := []) dX11_image_1 gT_s tM_X11_214 tS_X11_isImage tIni_X11 tY_X11_isImage (by decide +kernel) ⟨by decide, by decide⟩ ⟨by decide, by decide⟩ (Nat.le_of_ble_eq_true rfl) rfl h (fun q hq => c_X11_isImage N _ _ q hq) (fun q1 _ h => ?_)
  refine AW_if_ne (tgt := 10) dX11_image_4 (by decide) h (fun _ h => ?_) (fun _ h => ?_)
  · refine AW_aload_n dX11_image_10 rfl ?_
    refine AW_getR (ci := 10) (k0 := 2) (C := RX11) (T := TX11) (N := 9) dX11_image_11 rfl (gT_u tU_X11) (by decide) (List.mem_cons_of_mem _ tF_X11_25) h (fun v2 _ h => ?_)
    refine AW_getI (ci := 2) (k0 := 0) (C := RX2) (T := TX2) (N := 11) dX11_image_14 rfl (gT_u tU_X2) (by decide) (List.mem_cons_of_mem _ tF_X11_130) h (fun v3 _ h => ?_)
    refine AW_if_ne (tgt := 23) dX11_image_17 (by decide) h (fun _ h => ?_) (fun _ h => ?_)
    · refine AW_aload_n dX11_image_23 rfl ?_
      refine AW_getR (ci := 10) (k0 := 4) (C := RX11) (T := TX11) (N := 9) dX11_image_24 rfl (gT_u tU_X11) (by decide) (List.mem_cons_of_mem _ tF_X11_32) h (fun v4 _ h => ?_)
      refine AW_iload_n dX11_image_27 rfl ?_
      refine AW_aald (fun _ => rfl) dX11_image_28 h (fun v5 _ h => ?_)
      refine AW_aload_n dX11_image_29 rfl ?_
      refine AW_getR (ci := 10) (k0 := 2) (C := RX11) (T := TX11) (N := 9) dX11_image_30 rfl (gT_u tU_X11) (by decide) (List.mem_cons_of_mem _ tF_X11_25) h (fun v6 _ h => ?_)
      refine AW_callVu (y := yX2_become) (cc := cX2_become) (n := 3) (d := 1) (mc := 0) (ms := 0) (np := 1) (ret := none) (As := [va_rf v6]) (st := []) (ci := 2) dX11_image_33 gT_s rfl tM_X11_120 tI_X2_become tSel_X2_X2_X2_become tIni_X2 tY_X2_become (by decide +kernel) ⟨by decide, by decide⟩ ⟨by decide, by decide⟩ (Nat.le_of_ble_eq_true rfl) rfl h (fun q hq => c_X2_become N _ _ _ q hq) (fun q7 _ h => ?_)
      refine AW_iconst (v := 1) dX11_image_36 (by decide) ?_
      exact AW_iret dX11_image_37 rfl ⟨Nat.zero_le _, Nat.zero_le _⟩ h
    · refine AW_ldc (v := -1000002) dX11_image_20 (List.mem_cons_of_mem _ tK_X11_131) ?_
      exact AW_iret dX11_image_22 rfl ⟨Nat.zero_le _, Nat.zero_le _⟩ h
  · refine AW_ldc (v := -1000001) dX11_image_7 (List.mem_cons_of_mem _ tK_X11_55) ?_
    exact AW_iret dX11_image_9 rfl ⟨Nat.zero_le _, Nat.zero_le _⟩ h
def f_X11_image (N : Nat) (A : hP) (x0 : Option Nat) (x1 : Int32) : Option (Int32 × hP) := f_X11_image_0 N A x0 x1
set_option maxRecDepth 20000 in
theorem c_X11_image {l : Launch} (N : Nat) (A : hP) (x0 : Option Nat) (x1 : Int32) (res : Int32 × hP) (h : f_X11_image N A x0 x1 = some res) : Ct l mX11_image 2 0 0 A [va_rf x0, .int x1] (gi res) := Ct.of (lv := [(0, va_rf x0), (1, .int x1)]) (ls := [some (va_rf x0), some (.int x1)]) (by decide) (by simp [lv_args, g_cat_rf, cat_i, cat_l]) rfl (by simp [g_cat_rf, cat_i, cat_l]) (fun G => (t_X11_image_0 N A x0 x1 res h))
abbrev mX11_restore : gM := gMk yX11_restore cX11_restore 2 (some .int)
def f_X11_restore_0 (N : Nat) (A : hP) (x0 : Option Nat) (x1 : Int32) : Option (Int32 × hP) := (f_X11_isImage N A x1).bind fun q1 => if q1.1 = (0) then (some ((-1000001 : Int32), q1.2)) else ((oR q1.2 x0 10 4).bind fun v2 => (oQ q1.2 v2 4 x1).bind fun v3 => (oI q1.2 v3 2 0).bind fun v4 => if v4 = (0) then (some ((-1000002 : Int32), q1.2)) else ((oR q1.2 x0 10 2).bind fun v5 => (oR q1.2 x0 10 4).bind fun v6 => (oQ q1.2 v6 4 x1).bind fun v7 => (oCk q1.2 v5 2).bind fun _ => (f_X2_become N q1.2 v5 v7).bind fun q8 => (oR q8.2 x0 10 5).bind fun v9 => (oCk q8.2 v9 9).bind fun _ => (f_X10_forget N q8.2 v9).bind fun q10 => some ((1 : Int32), q10.2)))
set_option maxRecDepth 20000 in
set_option maxHeartbeats 4000000 in
theorem t_X11_restore_0 {l : Launch} {G : gS} (N : Nat) (A : hP) (x0 : Option Nat) (x1 : Int32) (res : Int32 × hP) (h : f_X11_restore_0 N A x0 x1 = some res) : AW l mX11_restore (g_rm 2 0 0) G (g_Qf G (gi res) 0 0) A 0 0 0 [some (va_rf x0), some (.int x1)] [] := by
  unfold f_X11_restore_0 at h
  refine AW_iload_n dX11_restore_0 rfl ?_
  refine AW_callSi (y := yX11_isImage) (cc := cX11_isImage) (n := 1) (d := 0) (mc := 0) (ms := 0) (np := 1) (ret := (some .boolean)) (As := [.int x1]) (st := []) dX11_restore_1 gT_s tM_X11_214 tS_X11_isImage tIni_X11 tY_X11_isImage (by decide +kernel) ⟨by decide, by decide⟩ ⟨by decide, by decide⟩ (Nat.le_of_ble_eq_true rfl) rfl h (fun q hq => c_X11_isImage N _ _ q hq) (fun q1 _ h => ?_)
  refine AW_if_ne (tgt := 10) dX11_restore_4 (by decide) h (fun _ h => ?_) (fun _ h => ?_)
  · refine AW_aload_n dX11_restore_10 rfl ?_
    refine AW_getR (ci := 10) (k0 := 4) (C := RX11) (T := TX11) (N := 9) dX11_restore_11 rfl (gT_u tU_X11) (by decide) (List.mem_cons_of_mem _ tF_X11_32) h (fun v2 _ h => ?_)
    refine AW_iload_n dX11_restore_14 rfl ?_
    refine AW_aald (fun _ => rfl) dX11_restore_15 h (fun v3 _ h => ?_)
    refine AW_getI (ci := 2) (k0 := 0) (C := RX2) (T := TX2) (N := 11) dX11_restore_16 rfl (gT_u tU_X2) (by decide) (List.mem_cons_of_mem _ tF_X11_130) h (fun v4 _ h => ?_)
    refine AW_if_ne (tgt := 25) dX11_restore_19 (by decide) h (fun _ h => ?_) (fun _ h => ?_)
    · refine AW_aload_n dX11_restore_25 rfl ?_
      refine AW_getR (ci := 10) (k0 := 2) (C := RX11) (T := TX11) (N := 9) dX11_restore_26 rfl (gT_u tU_X11) (by decide) (List.mem_cons_of_mem _ tF_X11_25) h (fun v5 _ h => ?_)
      refine AW_aload_n dX11_restore_29 rfl ?_
      refine AW_getR (ci := 10) (k0 := 4) (C := RX11) (T := TX11) (N := 9) dX11_restore_30 rfl (gT_u tU_X11) (by decide) (List.mem_cons_of_mem _ tF_X11_32) h (fun v6 _ h => ?_)
      refine AW_iload_n dX11_restore_33 rfl ?_
      refine AW_aald (fun _ => rfl) dX11_restore_34 h (fun v7 _ h => ?_)
      refine AW_callVu (y := yX2_become) (cc := cX2_become) (n := 3) (d := 1) (mc := 0) (ms := 0) (np := 1) (ret := none) (As := [va_rf v7]) (st := []) (ci := 2) dX11_restore_35 gT_s rfl tM_X11_120 tI_X2_become tSel_X2_X2_X2_become tIni_X2 tY_X2_become (by decide +kernel) ⟨by decide, by decide⟩ ⟨by decide, by decide⟩ (Nat.le_of_ble_eq_true rfl) rfl h (fun q hq => c_X2_become N _ _ _ q hq) (fun q8 _ h => ?_)
      refine AW_aload_n dX11_restore_38 rfl ?_
      refine AW_getR (ci := 10) (k0 := 5) (C := RX11) (T := TX11) (N := 9) dX11_restore_39 rfl (gT_u tU_X11) (by decide) (List.mem_cons_of_mem _ tF_X11_39) h (fun v9 _ h => ?_)
      refine AW_callVu (y := yX10_forget) (cc := cX10_forget) (n := 1) (d := 0) (mc := 0) (ms := 0) (np := 0) (ret := none) (As := []) (st := []) (ci := 9) dX11_restore_42 gT_s rfl tM_X11_124 tI_X10_forget tSel_X10_X10_X10_forget tIni_X10 tY_X10_forget (by decide +kernel) ⟨by decide, by decide⟩ ⟨by decide, by decide⟩ (Nat.le_of_ble_eq_true rfl) rfl h (fun q hq => c_X10_forget N _ _ q hq) (fun q10 _ h => ?_)
      refine AW_iconst (v := 1) dX11_restore_45 (by decide) ?_
      exact AW_iret dX11_restore_46 rfl ⟨Nat.zero_le _, Nat.zero_le _⟩ h
    · refine AW_ldc (v := -1000002) dX11_restore_22 (List.mem_cons_of_mem _ tK_X11_131) ?_
      exact AW_iret dX11_restore_24 rfl ⟨Nat.zero_le _, Nat.zero_le _⟩ h
  · refine AW_ldc (v := -1000001) dX11_restore_7 (List.mem_cons_of_mem _ tK_X11_55) ?_
    exact AW_iret dX11_restore_9 rfl ⟨Nat.zero_le _, Nat.zero_le _⟩ h
def f_X11_restore (N : Nat) (A : hP) (x0 : Option Nat) (x1 : Int32) : Option (Int32 × hP) := f_X11_restore_0 N A x0 x1
set_option maxRecDepth 20000 in
theorem c_X11_restore {l : Launch} (N : Nat) (A : hP) (x0 : Option Nat) (x1 : Int32) (res : Int32 × hP) (h : f_X11_restore N A x0 x1 = some res) : Ct l mX11_restore 2 0 0 A [va_rf x0, .int x1] (gi res) := Ct.of (lv := [(0, va_rf x0), (1, .int x1)]) (ls := [some (va_rf x0), some (.int x1)]) (by decide) (by simp [lv_args, g_cat_rf, cat_i, cat_l]) rfl (by simp [g_cat_rf, cat_i, cat_l]) (fun G => (t_X11_restore_0 N A x0 x1 res h))
abbrev mX11_kind : gM := gMk yX11_kind cX11_kind 3 (some .int)
def f_X11_kind_22 (N : Nat) (A : hP) (s0 : Int32) : Option (Int32 × hP) := some (s0, A)
set_option maxRecDepth 20000 in
set_option maxHeartbeats 4000000 in
theorem t_X11_kind_22 {l : Launch} {G : gS} (N : Nat) (A : hP) (s0 : Int32) (res : Int32 × hP) (h : f_X11_kind_22 N A s0 = some res) : AW l mX11_kind (g_rm 1 0 0) G (g_Qf G (gi res) 0 0) A 0 0 22 [none, none, none] [.int s0] := by
  unfold f_X11_kind_22 at h
  exact AW_iret dX11_kind_22 rfl ⟨Nat.zero_le _, Nat.zero_le _⟩ h
def f_X11_kind_0 (N : Nat) (A : hP) (x0 : Option Nat) (x1 : Int32) : Option (Int32 × hP) := (oR A x0 10 2).bind fun v1 => (oCk A v1 2).bind fun _ => (f_X2_thingAt N A v1 x1).bind fun q2 => if q2.1 = none then (f_X11_kind_22 N q2.2 (-1000001 : Int32)) else ((v_X7_kindNumber N q2.2 q2.1).bind fun q3 => f_X11_kind_22 N q3.2 q3.1)
set_option maxRecDepth 20000 in
set_option maxHeartbeats 4000000 in
theorem t_X11_kind_0 {l : Launch} {G : gS} (N : Nat) (A : hP) (x0 : Option Nat) (x1 : Int32) (res : Int32 × hP) (h : f_X11_kind_0 N A x0 x1 = some res) : AW l mX11_kind (g_rm 1 0 0) G (g_Qf G (gi res) 0 0) A 0 0 0 [some (va_rf x0), some (.int x1), none] [] := by
  unfold f_X11_kind_0 at h
  refine AW_aload_n dX11_kind_0 rfl ?_
  refine AW_getR (ci := 10) (k0 := 2) (C := RX11) (T := TX11) (N := 9) dX11_kind_1 rfl (gT_u tU_X11) (by decide) (List.mem_cons_of_mem _ tF_X11_25) h (fun v1 _ h => ?_)
  refine AW_iload_n dX11_kind_4 rfl ?_
  refine AW_callVr (y := yX2_thingAt) (cc := cX2_thingAt) (n := 2) (d := 0) (mc := 0) (ms := 0) (np := 1) (ret := (some (.object "YesterdayScale$Thing"))) (As := [.int x1]) (st := []) (ci := 2) dX11_kind_5 gT_s rfl tM_X11_154 tI_X2_thingAt tSel_X2_X2_X2_thingAt tIni_X2 tY_X2_thingAt (by decide +kernel) ⟨by decide, by decide⟩ ⟨by decide, by decide⟩ (Nat.le_of_ble_eq_true rfl) rfl h (fun q hq => c_X2_thingAt N _ _ _ q hq) (fun q2 _ h => ?_)
  refine AW_astore_n (ls' := [some (va_rf x0), some (.int x1), some (va_rf q2.1)]) dX11_kind_8 (c1_i rfl) (by decide) rfl ?_
  refine AW_aload_n dX11_kind_9 rfl ?_
  refine AW_ifnonnull (tgt := 18) dX11_kind_10 (by decide) h (fun _ h => ?_) (fun _ h => ?_)
  · refine AW_aload_n dX11_kind_18 rfl ?_
    refine AW_v_X7_kindNumber N dX11_kind_19 gT_s tM_X11_217 (by decide) (by decide) (Nat.le_of_ble_eq_true rfl) h (fun q3 h => ?_)
    exact AW_fewer (fw_d (fw_d (fw_d fw_n))) (t_X11_kind_22 N _ _ _ h)
  · refine AW_ldc (v := -1000001) dX11_kind_13 (List.mem_cons_of_mem _ tK_X11_55) ?_
    refine AW_goto (tgt := 22) dX11_kind_15 (by decide) ?_
    exact AW_fewer (fw_d (fw_d (fw_d fw_n))) (t_X11_kind_22 N _ _ _ h)
def f_X11_kind (N : Nat) (A : hP) (x0 : Option Nat) (x1 : Int32) : Option (Int32 × hP) := f_X11_kind_0 N A x0 x1
set_option maxRecDepth 20000 in
theorem c_X11_kind {l : Launch} (N : Nat) (A : hP) (x0 : Option Nat) (x1 : Int32) (res : Int32 × hP) (h : f_X11_kind N A x0 x1 = some res) : Ct l mX11_kind 1 0 0 A [va_rf x0, .int x1] (gi res) := Ct.of (lv := [(0, va_rf x0), (1, .int x1)]) (ls := [some (va_rf x0), some (.int x1), none]) (by decide) (by simp [lv_args, g_cat_rf, cat_i, cat_l]) rfl (by simp [g_cat_rf, cat_i, cat_l]) (fun G => (t_X11_kind_0 N A x0 x1 res h))
abbrev mX11_isOfKind : gM := gMk yX11_isOfKind cX11_isOfKind 2 (some .boolean)
def f_X11_isOfKind_0 (N : Nat) (A : hP) (x0 : Option Nat) (x1 : Int32) : Option (Int32 × hP) := if x1 = (0 : Int32) then (if (1 : Int32) = 0 ∨ (1 : Int32) = 1 then some ((1 : Int32), A) else none) else (if x1 = (1 : Int32) then ((oCt A x0).bind fun v1 => if (if isOf v1 4 then (1 : Int32) else 0) = 0 ∨ (if isOf v1 4 then (1 : Int32) else 0) = 1 then some ((if isOf v1 4 then (1 : Int32) else 0), A) else none) else (if x1 = (2 : Int32) then ((oCt A x0).bind fun v2 => if (if isOf v2 1 then (1 : Int32) else 0) = 0 ∨ (if isOf v2 1 then (1 : Int32) else 0) = 1 then some ((if isOf v2 1 then (1 : Int32) else 0), A) else none) else (if x1 = (3 : Int32) then ((oCt A x0).bind fun v3 => if (if isOf v3 8 then (1 : Int32) else 0) = 0 ∨ (if isOf v3 8 then (1 : Int32) else 0) = 1 then some ((if isOf v3 8 then (1 : Int32) else 0), A) else none) else (if x1 = (4 : Int32) then ((oCt A x0).bind fun v4 => if (if isOf v4 5 then (1 : Int32) else 0) = 0 ∨ (if isOf v4 5 then (1 : Int32) else 0) = 1 then some ((if isOf v4 5 then (1 : Int32) else 0), A) else none) else (if x1 = (5 : Int32) then ((oCt A x0).bind fun v5 => if (if isOf v5 7 then (1 : Int32) else 0) = 0 ∨ (if isOf v5 7 then (1 : Int32) else 0) = 1 then some ((if isOf v5 7 then (1 : Int32) else 0), A) else none) else (if (0 : Int32) = 0 ∨ (0 : Int32) = 1 then some ((0 : Int32), A) else none))))))
set_option maxRecDepth 20000 in
set_option maxHeartbeats 4000000 in
theorem t_X11_isOfKind_0 {l : Launch} {G : gS} (N : Nat) (A : hP) (x0 : Option Nat) (x1 : Int32) (res : Int32 × hP) (h : f_X11_isOfKind_0 N A x0 x1 = some res) : AW l mX11_isOfKind (g_rm 0 0 0) G (g_Qf G (gi res) 0 0) A 0 0 0 [some (va_rf x0), some (.int x1)] [] := by
  unfold f_X11_isOfKind_0 at h
  refine AW_iload_n dX11_isOfKind_0 rfl ?_
  refine AW_case h (fun e1_0 h => ?_) (fun e1_0 h => ?_)
  · refine AW_tabIn (c := 0) (off := 39) (tgt := 40) dX11_isOfKind_1 e1_0 (by decide) (by decide) (by decide) (by decide) ?_
    refine AW_iconst (v := 1) dX11_isOfKind_40 (by decide) ?_
    exact AW_zret dX11_isOfKind_41 rfl ⟨Nat.zero_le _, Nat.zero_le _⟩ h
  refine AW_case h (fun e1_1 h => ?_) (fun e1_1 h => ?_)
  · refine AW_tabIn (c := 1) (off := 41) (tgt := 42) dX11_isOfKind_1 e1_1 (by decide) (by decide) (by decide) (by decide) ?_
    refine AW_aload_n dX11_isOfKind_42 rfl ?_
    refine AW_instT (tc := 4) (nm := RX4) dX11_isOfKind_43 (List.mem_cons_of_mem _ tC_X11_265) it_X4 h (fun v1 h => ?_)
    exact AW_zret dX11_isOfKind_46 rfl ⟨Nat.zero_le _, Nat.zero_le _⟩ h
  refine AW_case h (fun e1_2 h => ?_) (fun e1_2 h => ?_)
  · refine AW_tabIn (c := 2) (off := 46) (tgt := 47) dX11_isOfKind_1 e1_2 (by decide) (by decide) (by decide) (by decide) ?_
    refine AW_aload_n dX11_isOfKind_47 rfl ?_
    refine AW_instT (tc := 1) (nm := RX1) dX11_isOfKind_48 (List.mem_cons_of_mem _ tC_X11_267) it_X1 h (fun v2 h => ?_)
    exact AW_zret dX11_isOfKind_51 rfl ⟨Nat.zero_le _, Nat.zero_le _⟩ h
  refine AW_case h (fun e1_3 h => ?_) (fun e1_3 h => ?_)
  · refine AW_tabIn (c := 3) (off := 51) (tgt := 52) dX11_isOfKind_1 e1_3 (by decide) (by decide) (by decide) (by decide) ?_
    refine AW_aload_n dX11_isOfKind_52 rfl ?_
    refine AW_instT (tc := 8) (nm := RX9) dX11_isOfKind_53 (List.mem_cons_of_mem _ tC_X11_269) it_X9 h (fun v3 h => ?_)
    exact AW_zret dX11_isOfKind_56 rfl ⟨Nat.zero_le _, Nat.zero_le _⟩ h
  refine AW_case h (fun e1_4 h => ?_) (fun e1_4 h => ?_)
  · refine AW_tabIn (c := 4) (off := 56) (tgt := 57) dX11_isOfKind_1 e1_4 (by decide) (by decide) (by decide) (by decide) ?_
    refine AW_aload_n dX11_isOfKind_57 rfl ?_
    refine AW_instT (tc := 5) (nm := RX5) dX11_isOfKind_58 (List.mem_cons_of_mem _ tC_X11_271) it_X5 h (fun v4 h => ?_)
    exact AW_zret dX11_isOfKind_61 rfl ⟨Nat.zero_le _, Nat.zero_le _⟩ h
  refine AW_case h (fun e1_5 h => ?_) (fun e1_5 h => ?_)
  · refine AW_tabIn (c := 5) (off := 61) (tgt := 62) dX11_isOfKind_1 e1_5 (by decide) (by decide) (by decide) (by decide) ?_
    refine AW_aload_n dX11_isOfKind_62 rfl ?_
    refine AW_instT (tc := 7) (nm := RX8) dX11_isOfKind_63 (List.mem_cons_of_mem _ tC_X11_273) it_X8 h (fun v5 h => ?_)
    exact AW_zret dX11_isOfKind_66 rfl ⟨Nat.zero_le _, Nat.zero_le _⟩ h
  refine AW_tabOut (tgt := 67) dX11_isOfKind_1 (by have a0 := i32_ne e1_0; have b0 : (0 : Int32).toInt = 0 := (by decide); have a1 := i32_ne e1_1; have b1 : (1 : Int32).toInt = 1 := (by decide); have a2 := i32_ne e1_2; have b2 : (2 : Int32).toInt = 2 := (by decide); have a3 := i32_ne e1_3; have b3 : (3 : Int32).toInt = 3 := (by decide); have a4 := i32_ne e1_4; have b4 : (4 : Int32).toInt = 4 := (by decide); have a5 := i32_ne e1_5; have b5 : (5 : Int32).toInt = 5 := (by decide); omega) (by decide) ?_
  refine AW_iconst (v := 0) dX11_isOfKind_67 (by decide) ?_
  exact AW_zret dX11_isOfKind_68 rfl ⟨Nat.zero_le _, Nat.zero_le _⟩ h
def f_X11_isOfKind (N : Nat) (A : hP) (x0 : Option Nat) (x1 : Int32) : Option (Int32 × hP) := f_X11_isOfKind_0 N A x0 x1
set_option maxRecDepth 20000 in
theorem c_X11_isOfKind {l : Launch} (N : Nat) (A : hP) (x0 : Option Nat) (x1 : Int32) (res : Int32 × hP) (h : f_X11_isOfKind N A x0 x1 = some res) : Ct l mX11_isOfKind 0 0 0 A [va_rf x0, .int x1] (gi res) := Ct.of (lv := [(0, va_rf x0), (1, .int x1)]) (ls := [some (va_rf x0), some (.int x1)]) (by decide) (by simp [lv_args, g_cat_rf, cat_i, cat_l]) rfl (by simp [g_cat_rf, cat_i, cat_l]) (fun G => (t_X11_isOfKind_0 N A x0 x1 res h))
abbrev mX11_as : gM := gMk yX11_as cX11_as 4 (some .int)
def f_X11_as_22 (N : Nat) (A : hP) : Option (Int32 × hP) := some ((-1000001 : Int32), A)
set_option maxRecDepth 20000 in
set_option maxHeartbeats 4000000 in
theorem t_X11_as_22 {l : Launch} {G : gS} (N : Nat) (A : hP) (res : Int32 × hP) (h : f_X11_as_22 N A  = some res) : AW l mX11_as (g_rm 1 0 0) G (g_Qf G (gi res) 0 0) A 0 0 22 [none, none, none, none] [] := by
  unfold f_X11_as_22 at h
  refine AW_ldc (v := -1000001) dX11_as_22 (List.mem_cons_of_mem _ tK_X11_55) ?_
  exact AW_iret dX11_as_24 rfl ⟨Nat.zero_le _, Nat.zero_le _⟩ h
def f_X11_as_49 (N : Nat) (A : hP) (s0 : Int32) : Option (Int32 × hP) := some (s0, A)
set_option maxRecDepth 20000 in
set_option maxHeartbeats 4000000 in
theorem t_X11_as_49 {l : Launch} {G : gS} (N : Nat) (A : hP) (s0 : Int32) (res : Int32 × hP) (h : f_X11_as_49 N A s0 = some res) : AW l mX11_as (g_rm 1 0 0) G (g_Qf G (gi res) 0 0) A 0 0 49 [none, none, none, none] [.int s0] := by
  unfold f_X11_as_49 at h
  exact AW_iret dX11_as_49 rfl ⟨Nat.zero_le _, Nat.zero_le _⟩ h
def f_X11_as_0 (N : Nat) (A : hP) (x0 : Option Nat) (x1 : Int32) (x2 : Int32) : Option (Int32 × hP) := (oR A x0 10 2).bind fun v1 => (oCk A v1 2).bind fun _ => (f_X2_thingAt N A v1 x1).bind fun q2 => if q2.1 = none then (f_X11_as_22 N q2.2) else (if x2 < (0) then (f_X11_as_22 N q2.2) else (if x2 ≤ (5 : Int32) then ((f_X11_isOfKind N q2.2 q2.1 x2).bind fun q3 => if q3.1 = (0) then ((oCk q3.2 x0 10).bind fun _ => (f_X11_found N q3.2 x0 (3 : Int32)).bind fun q4 => f_X11_as_49 N q4.2 q4.1) else ((oT q3.2 q2.1 0).bind fun v5 => (oCk q3.2 x0 10).bind fun _ => (f_X11_passed N q3.2 x0 v5).bind fun q6 => f_X11_as_49 N q6.2 q6.1)) else (f_X11_as_22 N q2.2)))
set_option maxRecDepth 20000 in
set_option maxHeartbeats 4000000 in
theorem t_X11_as_0 {l : Launch} {G : gS} (N : Nat) (A : hP) (x0 : Option Nat) (x1 : Int32) (x2 : Int32) (res : Int32 × hP) (h : f_X11_as_0 N A x0 x1 x2 = some res) : AW l mX11_as (g_rm 1 0 0) G (g_Qf G (gi res) 0 0) A 0 0 0 [some (va_rf x0), some (.int x1), some (.int x2), none] [] := by
  unfold f_X11_as_0 at h
  refine AW_aload_n dX11_as_0 rfl ?_
  refine AW_getR (ci := 10) (k0 := 2) (C := RX11) (T := TX11) (N := 9) dX11_as_1 rfl (gT_u tU_X11) (by decide) (List.mem_cons_of_mem _ tF_X11_25) h (fun v1 _ h => ?_)
  refine AW_iload_n dX11_as_4 rfl ?_
  refine AW_callVr (y := yX2_thingAt) (cc := cX2_thingAt) (n := 2) (d := 0) (mc := 0) (ms := 0) (np := 1) (ret := (some (.object "YesterdayScale$Thing"))) (As := [.int x1]) (st := []) (ci := 2) dX11_as_5 gT_s rfl tM_X11_154 tI_X2_thingAt tSel_X2_X2_X2_thingAt tIni_X2 tY_X2_thingAt (by decide +kernel) ⟨by decide, by decide⟩ ⟨by decide, by decide⟩ (Nat.le_of_ble_eq_true rfl) rfl h (fun q hq => c_X2_thingAt N _ _ _ q hq) (fun q2 _ h => ?_)
  refine AW_astore_n (ls' := [some (va_rf x0), some (.int x1), some (.int x2), some (va_rf q2.1)]) dX11_as_8 (c1_i rfl) (by decide) rfl ?_
  refine AW_aload_n dX11_as_9 rfl ?_
  refine AW_ifnull (tgt := 22) dX11_as_10 (by decide) h (fun _ h => ?_) (fun _ h => ?_)
  · exact AW_fewer (fw_d (fw_d (fw_d (fw_d fw_n)))) (t_X11_as_22 N _ _ h)
  · refine AW_iload_n dX11_as_13 rfl ?_
    refine AW_if_lt (tgt := 22) dX11_as_14 (by decide) h (fun _ h => ?_) (fun _ h => ?_)
    · exact AW_fewer (fw_d (fw_d (fw_d (fw_d fw_n)))) (t_X11_as_22 N _ _ h)
    · refine AW_iload_n dX11_as_17 rfl ?_
      refine AW_iconst (v := 5) dX11_as_18 (by decide) ?_
      refine AW_icmp_le (tgt := 25) dX11_as_19 (by decide) h (fun _ h => ?_) (fun _ h => ?_)
      · refine AW_aload_n dX11_as_25 rfl ?_
        refine AW_iload_n dX11_as_26 rfl ?_
        refine AW_callSi (y := yX11_isOfKind) (cc := cX11_isOfKind) (n := 2) (d := 0) (mc := 0) (ms := 0) (np := 2) (ret := (some .boolean)) (As := [va_rf q2.1, .int x2]) (st := []) dX11_as_27 gT_s tM_X11_220 tS_X11_isOfKind tIni_X11 tY_X11_isOfKind (by decide +kernel) ⟨by decide, by decide⟩ ⟨by decide, by decide⟩ (Nat.le_of_ble_eq_true rfl) rfl h (fun q hq => c_X11_isOfKind N _ _ _ q hq) (fun q3 _ h => ?_)
        refine AW_if_eq (tgt := 44) dX11_as_30 (by decide) h (fun _ h => ?_) (fun _ h => ?_)
        · refine AW_aload_n dX11_as_44 rfl ?_
          refine AW_iconst (v := 3) dX11_as_45 (by decide) ?_
          refine AW_callVi (y := yX11_found) (cc := cX11_found) (n := 2) (d := 0) (mc := 0) (ms := 0) (np := 1) (ret := (some .int)) (As := [.int (3 : Int32)]) (st := []) (ci := 10) dX11_as_46 gT_s rfl tM_X11_56 tI_X11_found selp_X11_found tIni_X11 tY_X11_found (by decide +kernel) ⟨by decide, by decide⟩ ⟨by decide, by decide⟩ (Nat.le_of_ble_eq_true rfl) rfl h (fun q hq => c_X11_found N _ _ _ q hq) (fun q4 _ h => ?_)
          exact AW_fewer (fw_d (fw_d (fw_d (fw_d fw_n)))) (t_X11_as_49 N _ _ _ h)
        · refine AW_aload_n dX11_as_33 rfl ?_
          refine AW_aload_n dX11_as_34 rfl ?_
          refine AW_getT (nm := "number") (by decide) gT_s dX11_as_35 (List.mem_cons_of_mem _ tF_X11_224) h (fun v5 _ h => ?_)
          refine AW_callVi (y := yX11_passed) (cc := cX11_passed) (n := 2) (d := 0) (mc := 0) (ms := 0) (np := 1) (ret := (some .int)) (As := [.int v5]) (st := []) (ci := 10) dX11_as_38 gT_s rfl tM_X11_64 tI_X11_passed selp_X11_passed tIni_X11 tY_X11_passed (by decide +kernel) ⟨by decide, by decide⟩ ⟨by decide, by decide⟩ (Nat.le_of_ble_eq_true rfl) rfl h (fun q hq => c_X11_passed N _ _ _ q hq) (fun q6 _ h => ?_)
          refine AW_goto (tgt := 49) dX11_as_41 (by decide) ?_
          exact AW_fewer (fw_d (fw_d (fw_d (fw_d fw_n)))) (t_X11_as_49 N _ _ _ h)
      · exact AW_fewer (fw_d (fw_d (fw_d (fw_d fw_n)))) (t_X11_as_22 N _ _ h)
def f_X11_as (N : Nat) (A : hP) (x0 : Option Nat) (x1 : Int32) (x2 : Int32) : Option (Int32 × hP) := f_X11_as_0 N A x0 x1 x2
set_option maxRecDepth 20000 in
theorem c_X11_as {l : Launch} (N : Nat) (A : hP) (x0 : Option Nat) (x1 : Int32) (x2 : Int32) (res : Int32 × hP) (h : f_X11_as N A x0 x1 x2 = some res) : Ct l mX11_as 1 0 0 A [va_rf x0, .int x1, .int x2] (gi res) := Ct.of (lv := [(0, va_rf x0), (1, .int x1), (2, .int x2)]) (ls := [some (va_rf x0), some (.int x1), some (.int x2), none]) (by decide) (by simp [lv_args, g_cat_rf, cat_i, cat_l]) rfl (by simp [g_cat_rf, cat_i, cat_l]) (fun G => (t_X11_as_0 N A x0 x1 x2 res h))
abbrev mX11_ask : gM := gMk yX11_ask cX11_ask 4 (some .int)
def f_X11_ask_22 (N : Nat) (A : hP) : Option (Int32 × hP) := some ((-1000001 : Int32), A)
set_option maxRecDepth 20000 in
set_option maxHeartbeats 4000000 in
theorem t_X11_ask_22 {l : Launch} {G : gS} (N : Nat) (A : hP) (res : Int32 × hP) (h : f_X11_ask_22 N A  = some res) : AW l mX11_ask (g_rm 6 0 0) G (g_Qf G (gi res) 0 0) A 0 0 22 [none, none, none, none] [] := by
  unfold f_X11_ask_22 at h
  refine AW_ldc (v := -1000001) dX11_ask_22 (List.mem_cons_of_mem _ tK_X11_55) ?_
  exact AW_iret dX11_ask_24 rfl ⟨Nat.zero_le _, Nat.zero_le _⟩ h
def f_X11_ask_64 (N : Nat) (A : hP) (s0 : Int32) : Option (Int32 × hP) := some (s0, A)
set_option maxRecDepth 20000 in
set_option maxHeartbeats 4000000 in
theorem t_X11_ask_64 {l : Launch} {G : gS} (N : Nat) (A : hP) (s0 : Int32) (res : Int32 × hP) (h : f_X11_ask_64 N A s0 = some res) : AW l mX11_ask (g_rm 6 0 0) G (g_Qf G (gi res) 0 0) A 0 0 64 [none, none, none, none] [.int s0] := by
  unfold f_X11_ask_64 at h
  exact AW_iret dX11_ask_64 rfl ⟨Nat.zero_le _, Nat.zero_le _⟩ h
def f_X11_ask_0 (N : Nat) (A : hP) (x0 : Option Nat) (x1 : Int32) (x2 : Int32) : Option (Int32 × hP) := (oR A x0 10 2).bind fun v1 => (oCk A v1 2).bind fun _ => (f_X2_thingAt N A v1 x1).bind fun q2 => if q2.1 = none then (f_X11_ask_22 N q2.2) else (if x2 < (0) then (f_X11_ask_22 N q2.2) else (if x2 ≤ (1 : Int32) then ((oR q2.2 x0 10 6).bind fun v3 => (oR q2.2 x0 10 2).bind fun v4 => (oI q2.2 v4 2 5).bind fun v5 => (oCk q2.2 v3 0).bind fun _ => (f_X0_begin N q2.2 v3 v5).bind fun q6 => if x2 = (0) then ((oR q6.2 x0 10 6).bind fun v9 => (v_X7_sizeBy N q6.2 q2.1 v9 (0 : Int32)).bind fun q10 => f_X11_ask_64 N q10.2 q10.1) else ((oR q6.2 x0 10 6).bind fun v7 => (v_X7_markBy N q6.2 q2.1 v7 (0 : Int32)).bind fun q8 => f_X11_ask_64 N q8.2 q8.1)) else (f_X11_ask_22 N q2.2)))
set_option maxRecDepth 20000 in
set_option maxHeartbeats 4000000 in
theorem t_X11_ask_0 {l : Launch} {G : gS} (N : Nat) (A : hP) (x0 : Option Nat) (x1 : Int32) (x2 : Int32) (res : Int32 × hP) (h : f_X11_ask_0 N A x0 x1 x2 = some res) : AW l mX11_ask (g_rm 6 0 0) G (g_Qf G (gi res) 0 0) A 0 0 0 [some (va_rf x0), some (.int x1), some (.int x2), none] [] := by
  unfold f_X11_ask_0 at h
  refine AW_aload_n dX11_ask_0 rfl ?_
  refine AW_getR (ci := 10) (k0 := 2) (C := RX11) (T := TX11) (N := 9) dX11_ask_1 rfl (gT_u tU_X11) (by decide) (List.mem_cons_of_mem _ tF_X11_25) h (fun v1 _ h => ?_)
  refine AW_iload_n dX11_ask_4 rfl ?_
  refine AW_callVr (y := yX2_thingAt) (cc := cX2_thingAt) (n := 2) (d := 0) (mc := 0) (ms := 0) (np := 1) (ret := (some (.object "YesterdayScale$Thing"))) (As := [.int x1]) (st := []) (ci := 2) dX11_ask_5 gT_s rfl tM_X11_154 tI_X2_thingAt tSel_X2_X2_X2_thingAt tIni_X2 tY_X2_thingAt (by decide +kernel) ⟨by decide, by decide⟩ ⟨by decide, by decide⟩ (Nat.le_of_ble_eq_true rfl) rfl h (fun q hq => c_X2_thingAt N _ _ _ q hq) (fun q2 _ h => ?_)
  refine AW_astore_n (ls' := [some (va_rf x0), some (.int x1), some (.int x2), some (va_rf q2.1)]) dX11_ask_8 (c1_i rfl) (by decide) rfl ?_
  refine AW_aload_n dX11_ask_9 rfl ?_
  refine AW_ifnull (tgt := 22) dX11_ask_10 (by decide) h (fun _ h => ?_) (fun _ h => ?_)
  · exact AW_fewer (fw_d (fw_d (fw_d (fw_d fw_n)))) (t_X11_ask_22 N _ _ h)
  · refine AW_iload_n dX11_ask_13 rfl ?_
    refine AW_if_lt (tgt := 22) dX11_ask_14 (by decide) h (fun _ h => ?_) (fun _ h => ?_)
    · exact AW_fewer (fw_d (fw_d (fw_d (fw_d fw_n)))) (t_X11_ask_22 N _ _ h)
    · refine AW_iload_n dX11_ask_17 rfl ?_
      refine AW_iconst (v := 1) dX11_ask_18 (by decide) ?_
      refine AW_icmp_le (tgt := 25) dX11_ask_19 (by decide) h (fun _ h => ?_) (fun _ h => ?_)
      · refine AW_aload_n dX11_ask_25 rfl ?_
        refine AW_getR (ci := 10) (k0 := 6) (C := RX11) (T := TX11) (N := 9) dX11_ask_26 rfl (gT_u tU_X11) (by decide) (List.mem_cons_of_mem _ tF_X11_46) h (fun v3 _ h => ?_)
        refine AW_aload_n dX11_ask_29 rfl ?_
        refine AW_getR (ci := 10) (k0 := 2) (C := RX11) (T := TX11) (N := 9) dX11_ask_30 rfl (gT_u tU_X11) (by decide) (List.mem_cons_of_mem _ tF_X11_25) h (fun v4 _ h => ?_)
        refine AW_getI (ci := 2) (k0 := 5) (C := RX2) (T := TX2) (N := 11) dX11_ask_33 rfl (gT_u tU_X2) (by decide) (List.mem_cons_of_mem _ tF_X11_127) h (fun v5 _ h => ?_)
        refine AW_callVu (y := yX0_begin) (cc := cX0_begin) (n := 2) (d := 0) (mc := 0) (ms := 0) (np := 1) (ret := none) (As := [.int v5]) (st := []) (ci := 0) dX11_ask_36 gT_s rfl tM_X11_227 tI_X0_begin tSel_X0_X0_X0_begin tIni_X0 tY_X0_begin (by decide +kernel) ⟨by decide, by decide⟩ ⟨by decide, by decide⟩ (Nat.le_of_ble_eq_true rfl) rfl h (fun q hq => c_X0_begin N _ _ _ q hq) (fun q6 _ h => ?_)
        refine AW_iload_n dX11_ask_39 rfl ?_
        refine AW_if_ne (tgt := 55) dX11_ask_40 (by decide) h (fun _ h => ?_) (fun _ h => ?_)
        · refine AW_aload_n dX11_ask_55 rfl ?_
          refine AW_aload_n dX11_ask_56 rfl ?_
          refine AW_getR (ci := 10) (k0 := 6) (C := RX11) (T := TX11) (N := 9) dX11_ask_57 rfl (gT_u tU_X11) (by decide) (List.mem_cons_of_mem _ tF_X11_46) h (fun v7 _ h => ?_)
          refine AW_iconst (v := 0) dX11_ask_60 (by decide) ?_
          refine AW_v_X7_markBy N dX11_ask_61 gT_s tM_X11_233 (by decide) (by decide) (Nat.le_of_ble_eq_true rfl) h (fun q8 h => ?_)
          exact AW_fewer (fw_d (fw_d (fw_d (fw_d fw_n)))) (t_X11_ask_64 N _ _ _ h)
        · refine AW_aload_n dX11_ask_43 rfl ?_
          refine AW_aload_n dX11_ask_44 rfl ?_
          refine AW_getR (ci := 10) (k0 := 6) (C := RX11) (T := TX11) (N := 9) dX11_ask_45 rfl (gT_u tU_X11) (by decide) (List.mem_cons_of_mem _ tF_X11_46) h (fun v9 _ h => ?_)
          refine AW_iconst (v := 0) dX11_ask_48 (by decide) ?_
          refine AW_v_X7_sizeBy N dX11_ask_49 gT_s tM_X11_229 (by decide) (by decide) (Nat.le_of_ble_eq_true rfl) h (fun q10 h => ?_)
          refine AW_goto (tgt := 64) dX11_ask_52 (by decide) ?_
          exact AW_fewer (fw_d (fw_d (fw_d (fw_d fw_n)))) (t_X11_ask_64 N _ _ _ h)
      · exact AW_fewer (fw_d (fw_d (fw_d (fw_d fw_n)))) (t_X11_ask_22 N _ _ h)
def f_X11_ask (N : Nat) (A : hP) (x0 : Option Nat) (x1 : Int32) (x2 : Int32) : Option (Int32 × hP) := f_X11_ask_0 N A x0 x1 x2
set_option maxRecDepth 20000 in
theorem c_X11_ask {l : Launch} (N : Nat) (A : hP) (x0 : Option Nat) (x1 : Int32) (x2 : Int32) (res : Int32 × hP) (h : f_X11_ask N A x0 x1 x2 = some res) : Ct l mX11_ask 6 0 0 A [va_rf x0, .int x1, .int x2] (gi res) := Ct.of (lv := [(0, va_rf x0), (1, .int x1), (2, .int x2)]) (ls := [some (va_rf x0), some (.int x1), some (.int x2), none]) (by decide) (by simp [lv_args, g_cat_rf, cat_i, cat_l]) rfl (by simp [g_cat_rf, cat_i, cat_l]) (fun G => (t_X11_ask_0 N A x0 x1 x2 res h))
abbrev mX11_trace : gM := gMk yX11_trace cX11_trace 2 (some .int)
def f_X11_trace_29 (N : Nat) (A : hP) (s0 : Int32) : Option (Int32 × hP) := some (s0, A)
set_option maxRecDepth 20000 in
set_option maxHeartbeats 4000000 in
theorem t_X11_trace_29 {l : Launch} {G : gS} (N : Nat) (A : hP) (s0 : Int32) (res : Int32 × hP) (h : f_X11_trace_29 N A s0 = some res) : AW l mX11_trace (g_rm 0 0 0) G (g_Qf G (gi res) 0 0) A 0 0 29 [none, none] [.int s0] := by
  unfold f_X11_trace_29 at h
  exact AW_iret dX11_trace_29 rfl ⟨Nat.zero_le _, Nat.zero_le _⟩ h
def f_X11_trace_27 (N : Nat) (A : hP) : Option (Int32 × hP) := f_X11_trace_29 N A (-1000000 : Int32)
set_option maxRecDepth 20000 in
set_option maxHeartbeats 4000000 in
theorem t_X11_trace_27 {l : Launch} {G : gS} (N : Nat) (A : hP) (res : Int32 × hP) (h : f_X11_trace_27 N A  = some res) : AW l mX11_trace (g_rm 0 0 0) G (g_Qf G (gi res) 0 0) A 0 0 27 [none, none] [] := by
  unfold f_X11_trace_27 at h
  refine AW_ldc (v := -1000000) dX11_trace_27 (List.mem_cons_of_mem _ tK_X11_242) ?_
  exact (t_X11_trace_29 N _ _ _ h)
def f_X11_trace_0 (N : Nat) (A : hP) (x0 : Option Nat) (x1 : Int32) : Option (Int32 × hP) := if x1 < (0) then (f_X11_trace_27 N A) else ((oR A x0 10 6).bind fun v1 => (oI A v1 0 0).bind fun v2 => if v2 ≤ x1 then (f_X11_trace_27 N A) else ((oR A x0 10 6).bind fun v3 => (oR A v3 0 2).bind fun v4 => (oA A v4 0 x1).bind fun v5 => f_X11_trace_29 N A v5))
set_option maxRecDepth 20000 in
set_option maxHeartbeats 4000000 in
theorem t_X11_trace_0 {l : Launch} {G : gS} (N : Nat) (A : hP) (x0 : Option Nat) (x1 : Int32) (res : Int32 × hP) (h : f_X11_trace_0 N A x0 x1 = some res) : AW l mX11_trace (g_rm 0 0 0) G (g_Qf G (gi res) 0 0) A 0 0 0 [some (va_rf x0), some (.int x1)] [] := by
  unfold f_X11_trace_0 at h
  refine AW_iload_n dX11_trace_0 rfl ?_
  refine AW_if_lt (tgt := 27) dX11_trace_1 (by decide) h (fun _ h => ?_) (fun _ h => ?_)
  · exact AW_fewer (fw_d (fw_d fw_n)) (t_X11_trace_27 N _ _ h)
  · refine AW_iload_n dX11_trace_4 rfl ?_
    refine AW_aload_n dX11_trace_5 rfl ?_
    refine AW_getR (ci := 10) (k0 := 6) (C := RX11) (T := TX11) (N := 9) dX11_trace_6 rfl (gT_u tU_X11) (by decide) (List.mem_cons_of_mem _ tF_X11_46) h (fun v1 _ h => ?_)
    refine AW_getI (ci := 0) (k0 := 0) (C := RX0) (T := TX0) (N := 3) dX11_trace_9 rfl (gT_u tU_X0) (by decide) (List.mem_cons_of_mem _ tF_X11_236) h (fun v2 _ h => ?_)
    refine AW_icmp_ge (tgt := 27) dX11_trace_12 (by decide) h (fun _ h => ?_) (fun _ h => ?_)
    · exact AW_fewer (fw_d (fw_d fw_n)) (t_X11_trace_27 N _ _ h)
    · refine AW_aload_n dX11_trace_15 rfl ?_
      refine AW_getR (ci := 10) (k0 := 6) (C := RX11) (T := TX11) (N := 9) dX11_trace_16 rfl (gT_u tU_X11) (by decide) (List.mem_cons_of_mem _ tF_X11_46) h (fun v3 _ h => ?_)
      refine AW_getR (ci := 0) (k0 := 2) (C := RX0) (T := TX0) (N := 3) dX11_trace_19 rfl (gT_u tU_X0) (by decide) (List.mem_cons_of_mem _ tF_X11_239) h (fun v4 _ h => ?_)
      refine AW_iload_n dX11_trace_22 rfl ?_
      refine AW_iald dX11_trace_23 h (fun v5 _ h => ?_)
      refine AW_goto (tgt := 29) dX11_trace_24 (by decide) ?_
      exact AW_fewer (fw_d (fw_d fw_n)) (t_X11_trace_29 N _ _ _ h)
def f_X11_trace (N : Nat) (A : hP) (x0 : Option Nat) (x1 : Int32) : Option (Int32 × hP) := f_X11_trace_0 N A x0 x1
set_option maxRecDepth 20000 in
theorem c_X11_trace {l : Launch} (N : Nat) (A : hP) (x0 : Option Nat) (x1 : Int32) (res : Int32 × hP) (h : f_X11_trace N A x0 x1 = some res) : Ct l mX11_trace 0 0 0 A [va_rf x0, .int x1] (gi res) := Ct.of (lv := [(0, va_rf x0), (1, .int x1)]) (ls := [some (va_rf x0), some (.int x1)]) (by decide) (by simp [lv_args, g_cat_rf, cat_i, cat_l]) rfl (by simp [g_cat_rf, cat_i, cat_l]) (fun G => (t_X11_trace_0 N A x0 x1 res h))
abbrev mX11_howManyRows : gM := gMk yX11_howManyRows cX11_howManyRows 3 (some .int)
def f_X11_howManyRows_25 (N : Nat) (r4 : hP → Option Nat → Int32 → Int32 → Option (Int32 × hP)) (A : hP) (x0 : Option Nat) (x1 : Int32) (x2 : Int32) : Option (Int32 × hP) := r4 A x0 x1 (x2 + (1 : Int32))
set_option maxRecDepth 20000 in
set_option maxHeartbeats 4000000 in
theorem t_X11_howManyRows_25 {l : Launch} {G : gS} (N : Nat) (r4 : hP → Option Nat → Int32 → Int32 → Option (Int32 × hP)) (hr4 : ∀ (A : hP) (x0 : Option Nat) (x1 : Int32) (x2 : Int32) (res : Int32 × hP), r4 A x0 x1 x2 = some res → AW l mX11_howManyRows (g_rm 0 0 0) G (g_Qf G (gi res) 0 0) A 0 0 4 [some (va_rf x0), some (.int x1), some (.int x2)] []) (A : hP) (x0 : Option Nat) (x1 : Int32) (x2 : Int32) (res : Int32 × hP) (h : f_X11_howManyRows_25 N r4 A x0 x1 x2 = some res) : AW l mX11_howManyRows (g_rm 0 0 0) G (g_Qf G (gi res) 0 0) A 0 0 25 [some (va_rf x0), some (.int x1), some (.int x2)] [] := by
  unfold f_X11_howManyRows_25 at h
  refine AW_iinc (v := 1) (ls' := [some (va_rf x0), some (.int x1), some (.int (x2 + (1 : Int32)))]) dX11_howManyRows_25 rfl (c1_i rfl) (by decide) (by decide) rfl ?_
  refine AW_goto (tgt := 4) dX11_howManyRows_28 (by decide) ?_
  exact (hr4 _ _ _ _ _ h)
def f_X11_howManyRows_4 (N : Nat) : Nat → hP → Option Nat → Int32 → Int32 → Option (Int32 × hP)
  | 0, _, _, _, _ => none
  | n + 1, A, x0, x1, x2 => if (8 : Int32) ≤ x2 then (some (x1, A)) else ((oR A x0 10 0).bind fun v1 => (oQ A v1 3 x2).bind fun v2 => (oI A v2 3 0).bind fun v3 => if v3 = (0) then (f_X11_howManyRows_25 N (f_X11_howManyRows_4 N n) A x0 x1 x2) else (f_X11_howManyRows_25 N (f_X11_howManyRows_4 N n) A x0 (x1 + (1 : Int32)) x2))
set_option maxRecDepth 20000 in
set_option maxHeartbeats 4000000 in
theorem t_X11_howManyRows_4 {l : Launch} {G : gS} (N : Nat) : ∀ (n : Nat) (A : hP) (x0 : Option Nat) (x1 : Int32) (x2 : Int32) (res : Int32 × hP), f_X11_howManyRows_4 N n A x0 x1 x2 = some res → AW l mX11_howManyRows (g_rm 0 0 0) G (g_Qf G (gi res) 0 0) A 0 0 4 [some (va_rf x0), some (.int x1), some (.int x2)] [] := by
  intro n
  induction n with
  | zero => intro A x0 x1 x2 res h; cases h
  | succ n ih =>
    intro A x0 x1 x2 res h
    rw [f_X11_howManyRows_4] at h
    refine AW_iload_n dX11_howManyRows_4 rfl ?_
    refine AW_bipush (v := 8) dX11_howManyRows_5 (by decide) ?_
    refine AW_icmp_ge (tgt := 31) dX11_howManyRows_7 (by decide) h (fun _ h => ?_) (fun _ h => ?_)
    · refine AW_iload_n dX11_howManyRows_31 rfl ?_
      exact AW_iret dX11_howManyRows_32 rfl ⟨Nat.zero_le _, Nat.zero_le _⟩ h
    · refine AW_aload_n dX11_howManyRows_10 rfl ?_
      refine AW_getR (ci := 10) (k0 := 0) (C := RX11) (T := TX11) (N := 9) dX11_howManyRows_11 rfl (gT_u tU_X11) (by decide) (List.mem_cons_of_mem _ tF_X11_11) h (fun v1 _ h => ?_)
      refine AW_iload_n dX11_howManyRows_14 rfl ?_
      refine AW_aald (fun _ => rfl) dX11_howManyRows_15 h (fun v2 _ h => ?_)
      refine AW_getI (ci := 3) (k0 := 0) (C := RX3) (T := TX3) (N := 4) dX11_howManyRows_16 rfl (gT_u tU_X3) (by decide) (List.mem_cons_of_mem _ tF_X11_67) h (fun v3 _ h => ?_)
      refine AW_if_eq (tgt := 25) dX11_howManyRows_19 (by decide) h (fun _ h => ?_) (fun _ h => ?_)
      · exact (t_X11_howManyRows_25 N (f_X11_howManyRows_4 N n) ih _ _ _ _ _ h)
      · refine AW_iinc (v := 1) (ls' := [some (va_rf x0), some (.int (x1 + (1 : Int32))), some (.int x2)]) dX11_howManyRows_22 rfl (c1_r rfl) (by decide) (by decide) rfl ?_
        exact (t_X11_howManyRows_25 N (f_X11_howManyRows_4 N n) ih _ _ _ _ _ h)
def f_X11_howManyRows_0 (N : Nat) (A : hP) (x0 : Option Nat) : Option (Int32 × hP) := f_X11_howManyRows_4 N N A x0 (0 : Int32) (0 : Int32)
set_option maxRecDepth 20000 in
set_option maxHeartbeats 4000000 in
theorem t_X11_howManyRows_0 {l : Launch} {G : gS} (N : Nat) (A : hP) (x0 : Option Nat) (res : Int32 × hP) (h : f_X11_howManyRows_0 N A x0 = some res) : AW l mX11_howManyRows (g_rm 0 0 0) G (g_Qf G (gi res) 0 0) A 0 0 0 [some (va_rf x0), none, none] [] := by
  unfold f_X11_howManyRows_0 at h
  refine AW_iconst (v := 0) dX11_howManyRows_0 (by decide) ?_
  refine AW_istore_n (ls' := [some (va_rf x0), some (.int (0 : Int32)), none]) dX11_howManyRows_1 (c1_r rfl) (by decide) rfl ?_
  refine AW_iconst (v := 0) dX11_howManyRows_2 (by decide) ?_
  refine AW_istore_n (ls' := [some (va_rf x0), some (.int (0 : Int32)), some (.int (0 : Int32))]) dX11_howManyRows_3 (c1_i rfl) (by decide) rfl ?_
  exact (t_X11_howManyRows_4 N N _ _ _ _ _ h)
def f_X11_howManyRows (N : Nat) (A : hP) (x0 : Option Nat) : Option (Int32 × hP) := f_X11_howManyRows_0 N A x0
set_option maxRecDepth 20000 in
theorem c_X11_howManyRows {l : Launch} (N : Nat) (A : hP) (x0 : Option Nat) (res : Int32 × hP) (h : f_X11_howManyRows N A x0 = some res) : Ct l mX11_howManyRows 0 0 0 A [va_rf x0] (gi res) := Ct.of (lv := [(0, va_rf x0)]) (ls := [some (va_rf x0), none, none]) (by decide) (by simp [lv_args, g_cat_rf, cat_i, cat_l]) rfl (by simp [g_cat_rf, cat_i, cat_l]) (fun G => (t_X11_howManyRows_0 N A x0 res h))
abbrev mX11_count : gM := gMk yX11_count cX11_count 2 (some .int)
def f_X11_count_0 (N : Nat) (A : hP) (x0 : Option Nat) (x1 : Int32) : Option (Int32 × hP) := if x1 = (0 : Int32) then ((oCk A x0 10).bind fun _ => (f_X11_howManyRows N A x0).bind fun q1 => some (q1.1, q1.2)) else (if x1 = (1 : Int32) then ((oR A x0 10 2).bind fun v2 => (oI A v2 2 4).bind fun v3 => some (v3, A)) else (if x1 = (2 : Int32) then ((oR A x0 10 2).bind fun v4 => (oI A v4 2 5).bind fun v5 => some (v5, A)) else (if x1 = (3 : Int32) then ((oR A x0 10 2).bind fun v6 => (oI A v6 2 1).bind fun v7 => some (v7, A)) else (if x1 = (4 : Int32) then ((oR A x0 10 2).bind fun v8 => (oI A v8 2 2).bind fun v9 => some (v9, A)) else (if x1 = (5 : Int32) then ((oR A x0 10 2).bind fun v10 => (oI A v10 2 3).bind fun v11 => some (v11, A)) else (if x1 = (6 : Int32) then ((oR A x0 10 1).bind fun v12 => (oI A v12 6 1).bind fun v13 => some (v13, A)) else (some ((-1000001 : Int32), A))))))))
set_option maxRecDepth 20000 in
set_option maxHeartbeats 4000000 in
theorem t_X11_count_0 {l : Launch} {G : gS} (N : Nat) (A : hP) (x0 : Option Nat) (x1 : Int32) (res : Int32 × hP) (h : f_X11_count_0 N A x0 x1 = some res) : AW l mX11_count (g_rm 1 0 0) G (g_Qf G (gi res) 0 0) A 0 0 0 [some (va_rf x0), some (.int x1)] [] := by
  unfold f_X11_count_0 at h
  refine AW_iload_n dX11_count_0 rfl ?_
  refine AW_case h (fun e1_0 h => ?_) (fun e1_0 h => ?_)
  · refine AW_tabIn (c := 0) (off := 43) (tgt := 44) dX11_count_1 e1_0 (by decide) (by decide) (by decide) (by decide) ?_
    refine AW_aload_n dX11_count_44 rfl ?_
    refine AW_callVi (y := yX11_howManyRows) (cc := cX11_howManyRows) (n := 3) (d := 0) (mc := 0) (ms := 0) (np := 0) (ret := (some .int)) (As := []) (st := []) (ci := 10) dX11_count_45 gT_s rfl tM_X11_243 tI_X11_howManyRows selp_X11_howManyRows tIni_X11 tY_X11_howManyRows (by decide +kernel) ⟨by decide, by decide⟩ ⟨by decide, by decide⟩ (Nat.le_of_ble_eq_true rfl) rfl h (fun q hq => c_X11_howManyRows N _ _ q hq) (fun q1 _ h => ?_)
    exact AW_iret dX11_count_48 rfl ⟨Nat.zero_le _, Nat.zero_le _⟩ h
  refine AW_case h (fun e1_1 h => ?_) (fun e1_1 h => ?_)
  · refine AW_tabIn (c := 1) (off := 48) (tgt := 49) dX11_count_1 e1_1 (by decide) (by decide) (by decide) (by decide) ?_
    refine AW_aload_n dX11_count_49 rfl ?_
    refine AW_getR (ci := 10) (k0 := 2) (C := RX11) (T := TX11) (N := 9) dX11_count_50 rfl (gT_u tU_X11) (by decide) (List.mem_cons_of_mem _ tF_X11_25) h (fun v2 _ h => ?_)
    refine AW_getI (ci := 2) (k0 := 4) (C := RX2) (T := TX2) (N := 11) dX11_count_53 rfl (gT_u tU_X2) (by decide) (List.mem_cons_of_mem _ tF_X11_246) h (fun v3 _ h => ?_)
    exact AW_iret dX11_count_56 rfl ⟨Nat.zero_le _, Nat.zero_le _⟩ h
  refine AW_case h (fun e1_2 h => ?_) (fun e1_2 h => ?_)
  · refine AW_tabIn (c := 2) (off := 56) (tgt := 57) dX11_count_1 e1_2 (by decide) (by decide) (by decide) (by decide) ?_
    refine AW_aload_n dX11_count_57 rfl ?_
    refine AW_getR (ci := 10) (k0 := 2) (C := RX11) (T := TX11) (N := 9) dX11_count_58 rfl (gT_u tU_X11) (by decide) (List.mem_cons_of_mem _ tF_X11_25) h (fun v4 _ h => ?_)
    refine AW_getI (ci := 2) (k0 := 5) (C := RX2) (T := TX2) (N := 11) dX11_count_61 rfl (gT_u tU_X2) (by decide) (List.mem_cons_of_mem _ tF_X11_127) h (fun v5 _ h => ?_)
    exact AW_iret dX11_count_64 rfl ⟨Nat.zero_le _, Nat.zero_le _⟩ h
  refine AW_case h (fun e1_3 h => ?_) (fun e1_3 h => ?_)
  · refine AW_tabIn (c := 3) (off := 64) (tgt := 65) dX11_count_1 e1_3 (by decide) (by decide) (by decide) (by decide) ?_
    refine AW_aload_n dX11_count_65 rfl ?_
    refine AW_getR (ci := 10) (k0 := 2) (C := RX11) (T := TX11) (N := 9) dX11_count_66 rfl (gT_u tU_X11) (by decide) (List.mem_cons_of_mem _ tF_X11_25) h (fun v6 _ h => ?_)
    refine AW_getI (ci := 2) (k0 := 1) (C := RX2) (T := TX2) (N := 11) dX11_count_69 rfl (gT_u tU_X2) (by decide) (List.mem_cons_of_mem _ tF_X11_249) h (fun v7 _ h => ?_)
    exact AW_iret dX11_count_72 rfl ⟨Nat.zero_le _, Nat.zero_le _⟩ h
  refine AW_case h (fun e1_4 h => ?_) (fun e1_4 h => ?_)
  · refine AW_tabIn (c := 4) (off := 72) (tgt := 73) dX11_count_1 e1_4 (by decide) (by decide) (by decide) (by decide) ?_
    refine AW_aload_n dX11_count_73 rfl ?_
    refine AW_getR (ci := 10) (k0 := 2) (C := RX11) (T := TX11) (N := 9) dX11_count_74 rfl (gT_u tU_X11) (by decide) (List.mem_cons_of_mem _ tF_X11_25) h (fun v8 _ h => ?_)
    refine AW_getI (ci := 2) (k0 := 2) (C := RX2) (T := TX2) (N := 11) dX11_count_77 rfl (gT_u tU_X2) (by decide) (List.mem_cons_of_mem _ tF_X11_252) h (fun v9 _ h => ?_)
    exact AW_iret dX11_count_80 rfl ⟨Nat.zero_le _, Nat.zero_le _⟩ h
  refine AW_case h (fun e1_5 h => ?_) (fun e1_5 h => ?_)
  · refine AW_tabIn (c := 5) (off := 80) (tgt := 81) dX11_count_1 e1_5 (by decide) (by decide) (by decide) (by decide) ?_
    refine AW_aload_n dX11_count_81 rfl ?_
    refine AW_getR (ci := 10) (k0 := 2) (C := RX11) (T := TX11) (N := 9) dX11_count_82 rfl (gT_u tU_X11) (by decide) (List.mem_cons_of_mem _ tF_X11_25) h (fun v10 _ h => ?_)
    refine AW_getI (ci := 2) (k0 := 3) (C := RX2) (T := TX2) (N := 11) dX11_count_85 rfl (gT_u tU_X2) (by decide) (List.mem_cons_of_mem _ tF_X11_255) h (fun v11 _ h => ?_)
    exact AW_iret dX11_count_88 rfl ⟨Nat.zero_le _, Nat.zero_le _⟩ h
  refine AW_case h (fun e1_6 h => ?_) (fun e1_6 h => ?_)
  · refine AW_tabIn (c := 6) (off := 88) (tgt := 89) dX11_count_1 e1_6 (by decide) (by decide) (by decide) (by decide) ?_
    refine AW_aload_n dX11_count_89 rfl ?_
    refine AW_getR (ci := 10) (k0 := 1) (C := RX11) (T := TX11) (N := 9) dX11_count_90 rfl (gT_u tU_X11) (by decide) (List.mem_cons_of_mem _ tF_X11_18) h (fun v12 _ h => ?_)
    refine AW_getI (ci := 6) (k0 := 1) (C := RX6) (T := TX6) (N := 8) dX11_count_93 rfl (gT_u tU_X6) (by decide) (List.mem_cons_of_mem _ tF_X11_258) h (fun v13 _ h => ?_)
    exact AW_iret dX11_count_96 rfl ⟨Nat.zero_le _, Nat.zero_le _⟩ h
  refine AW_tabOut (tgt := 97) dX11_count_1 (by have a0 := i32_ne e1_0; have b0 : (0 : Int32).toInt = 0 := (by decide); have a1 := i32_ne e1_1; have b1 : (1 : Int32).toInt = 1 := (by decide); have a2 := i32_ne e1_2; have b2 : (2 : Int32).toInt = 2 := (by decide); have a3 := i32_ne e1_3; have b3 : (3 : Int32).toInt = 3 := (by decide); have a4 := i32_ne e1_4; have b4 : (4 : Int32).toInt = 4 := (by decide); have a5 := i32_ne e1_5; have b5 : (5 : Int32).toInt = 5 := (by decide); have a6 := i32_ne e1_6; have b6 : (6 : Int32).toInt = 6 := (by decide); omega) (by decide) ?_
  refine AW_ldc (v := -1000001) dX11_count_97 (List.mem_cons_of_mem _ tK_X11_55) ?_
  exact AW_iret dX11_count_99 rfl ⟨Nat.zero_le _, Nat.zero_le _⟩ h
def f_X11_count (N : Nat) (A : hP) (x0 : Option Nat) (x1 : Int32) : Option (Int32 × hP) := f_X11_count_0 N A x0 x1
set_option maxRecDepth 20000 in
theorem c_X11_count {l : Launch} (N : Nat) (A : hP) (x0 : Option Nat) (x1 : Int32) (res : Int32 × hP) (h : f_X11_count N A x0 x1 = some res) : Ct l mX11_count 1 0 0 A [va_rf x0, .int x1] (gi res) := Ct.of (lv := [(0, va_rf x0), (1, .int x1)]) (ls := [some (va_rf x0), some (.int x1)]) (by decide) (by simp [lv_args, g_cat_rf, cat_i, cat_l]) rfl (by simp [g_cat_rf, cat_i, cat_l]) (fun G => (t_X11_count_0 N A x0 x1 res h))
abbrev mX11_status : gM := gMk yX11_status cX11_status 1 (some .int)
def f_X11_status_0 (N : Nat) (A : hP) (x0 : Option Nat) : Option (Int32 × hP) := (oI A x0 10 8).bind fun v1 => some (v1, A)
set_option maxRecDepth 20000 in
set_option maxHeartbeats 4000000 in
theorem t_X11_status_0 {l : Launch} {G : gS} (N : Nat) (A : hP) (x0 : Option Nat) (res : Int32 × hP) (h : f_X11_status_0 N A x0 = some res) : AW l mX11_status (g_rm 0 0 0) G (g_Qf G (gi res) 0 0) A 0 0 0 [some (va_rf x0)] [] := by
  unfold f_X11_status_0 at h
  refine AW_aload_n dX11_status_0 rfl ?_
  refine AW_getI (ci := 10) (k0 := 8) (C := RX11) (T := TX11) (N := 9) dX11_status_1 rfl (gT_u tU_X11) (by decide) (List.mem_cons_of_mem _ tF_X11_261) h (fun v1 _ h => ?_)
  exact AW_iret dX11_status_4 rfl ⟨Nat.zero_le _, Nat.zero_le _⟩ h
def f_X11_status (N : Nat) (A : hP) (x0 : Option Nat) : Option (Int32 × hP) := f_X11_status_0 N A x0
set_option maxRecDepth 20000 in
theorem c_X11_status {l : Launch} (N : Nat) (A : hP) (x0 : Option Nat) (res : Int32 × hP) (h : f_X11_status N A x0 = some res) : Ct l mX11_status 0 0 0 A [va_rf x0] (gi res) := Ct.of (lv := [(0, va_rf x0)]) (ls := [some (va_rf x0)]) (by decide) (by simp [lv_args, g_cat_rf, cat_i, cat_l]) rfl (by simp [g_cat_rf, cat_i, cat_l]) (fun G => (t_X11_status_0 N A x0 res h))
