abbrev mX0_begin : gM := gMk yX0_begin cX0_begin 2 none
def f_X0_begin_0 (N : Nat) (A : hP) (x0 : Option Nat) (x1 : Int32) : Option (Unit × hP) := (oP A x0 0 0 (.int (0 : Int32))).bind fun A1 => (oP A1 x0 0 1 (.int x1)).bind fun A2 => some ((), A2)
set_option maxRecDepth 20000 in
set_option maxHeartbeats 4000000 in
theorem t_X0_begin_0 {l : Launch} {G : gS} (N : Nat) (A : hP) (x0 : Option Nat) (x1 : Int32) (res : Unit × hP) (h : f_X0_begin_0 N A x0 x1 = some res) : AW l mX0_begin (g_rm 0 0 0) G (g_Qf G (gu res) 0 0) A 0 0 0 [some (va_rf x0), some (.int x1)] [] := by
  unfold f_X0_begin_0 at h
  refine AW_aload_n dX0_begin_0 rfl ?_
  refine AW_iconst (v := 0) dX0_begin_1 (by decide) ?_
  refine AW_put (ci := 0) (k0 := 0) (C := RX0) (T := TX0) (N := 3) (ty0 := tyX0) dX0_begin_2 rfl (gT_u tU_X0) tyX0_ok nmX0 (by decide) (List.mem_cons_of_mem _ tF_X0_13) (Or.inl rfl) rfl rfl h (fun A1 _ h => ?_)
  refine AW_aload_n dX0_begin_5 rfl ?_
  refine AW_iload_n dX0_begin_6 rfl ?_
  refine AW_put (ci := 0) (k0 := 1) (C := RX0) (T := TX0) (N := 3) (ty0 := tyX0) dX0_begin_7 rfl (gT_u tU_X0) tyX0_ok nmX0 (by decide) (List.mem_cons_of_mem _ tF_X0_17) (Or.inl rfl) rfl rfl h (fun A2 _ h => ?_)
  exact AW_vret dX0_begin_10 rfl ⟨Nat.zero_le _, Nat.zero_le _⟩ h
def f_X0_begin (N : Nat) (A : hP) (x0 : Option Nat) (x1 : Int32) : Option (Unit × hP) := f_X0_begin_0 N A x0 x1
set_option maxRecDepth 20000 in
theorem c_X0_begin {l : Launch} (N : Nat) (A : hP) (x0 : Option Nat) (x1 : Int32) (res : Unit × hP) (h : f_X0_begin N A x0 x1 = some res) : Ct l mX0_begin 0 0 0 A [va_rf x0, .int x1] (gu res) := Ct.of (lv := [(0, va_rf x0), (1, .int x1)]) (ls := [some (va_rf x0), some (.int x1)]) (by decide) (by simp [lv_args, g_cat_rf, cat_i, cat_l]) rfl (by simp [g_cat_rf, cat_i, cat_l]) (fun G => (t_X0_begin_0 N A x0 x1 res h))
abbrev mX0_enter : gM := gMk yX0_enter cX0_enter 2 none
def f_X0_enter_29 (N : Nat) (A : hP) : Option (Unit × hP) := some ((), A)
set_option maxRecDepth 20000 in
set_option maxHeartbeats 4000000 in
theorem t_X0_enter_29 {l : Launch} {G : gS} (N : Nat) (A : hP) (res : Unit × hP) (h : f_X0_enter_29 N A  = some res) : AW l mX0_enter (g_rm 0 0 0) G (g_Qf G (gu res) 0 0) A 0 0 29 [none, none] [] := by
  unfold f_X0_enter_29 at h
  exact AW_vret dX0_enter_29 rfl ⟨Nat.zero_le _, Nat.zero_le _⟩ h
def f_X0_enter_0 (N : Nat) (A : hP) (x0 : Option Nat) (x1 : Int32) : Option (Unit × hP) := (oI A x0 0 0).bind fun v1 => if (16 : Int32) ≤ v1 then (f_X0_enter_29 N A) else ((oR A x0 0 2).bind fun v2 => (oI A x0 0 0).bind fun v3 => (oS A v2 0 v3 x1).bind fun A4 => (oI A4 x0 0 0).bind fun v5 => (oP A4 x0 0 0 (.int (v5 + (1 : Int32)))).bind fun A6 => f_X0_enter_29 N A6)
set_option maxRecDepth 20000 in
set_option maxHeartbeats 4000000 in
theorem t_X0_enter_0 {l : Launch} {G : gS} (N : Nat) (A : hP) (x0 : Option Nat) (x1 : Int32) (res : Unit × hP) (h : f_X0_enter_0 N A x0 x1 = some res) : AW l mX0_enter (g_rm 0 0 0) G (g_Qf G (gu res) 0 0) A 0 0 0 [some (va_rf x0), some (.int x1)] [] := by
  unfold f_X0_enter_0 at h
  refine AW_aload_n dX0_enter_0 rfl ?_
  refine AW_getI (ci := 0) (k0 := 0) (C := RX0) (T := TX0) (N := 3) dX0_enter_1 rfl (gT_u tU_X0) (by decide) (List.mem_cons_of_mem _ tF_X0_13) h (fun v1 _ h => ?_)
  refine AW_bipush (v := 16) dX0_enter_4 (by decide) ?_
  refine AW_icmp_ge (tgt := 29) dX0_enter_6 (by decide) h (fun _ h => ?_) (fun _ h => ?_)
  · exact AW_fewer (fw_d (fw_d fw_n)) (t_X0_enter_29 N _ _ h)
  · refine AW_aload_n dX0_enter_9 rfl ?_
    refine AW_getR (ci := 0) (k0 := 2) (C := RX0) (T := TX0) (N := 3) dX0_enter_10 rfl (gT_u tU_X0) (by decide) (List.mem_cons_of_mem _ tF_X0_9) h (fun v2 _ h => ?_)
    refine AW_aload_n dX0_enter_13 rfl ?_
    refine AW_getI (ci := 0) (k0 := 0) (C := RX0) (T := TX0) (N := 3) dX0_enter_14 rfl (gT_u tU_X0) (by decide) (List.mem_cons_of_mem _ tF_X0_13) h (fun v3 _ h => ?_)
    refine AW_iload_n dX0_enter_17 rfl ?_
    refine AW_iast dX0_enter_18 h (fun A4 _ h => ?_)
    refine AW_aload_n dX0_enter_19 rfl ?_
    refine AW_dup dX0_enter_20 (g_cat_rf _) ?_
    refine AW_getI (ci := 0) (k0 := 0) (C := RX0) (T := TX0) (N := 3) dX0_enter_21 rfl (gT_u tU_X0) (by decide) (List.mem_cons_of_mem _ tF_X0_13) h (fun v5 _ h => ?_)
    refine AW_iconst (v := 1) dX0_enter_24 (by decide) ?_
    refine AW_iadd dX0_enter_25 ?_
    refine AW_put (ci := 0) (k0 := 0) (C := RX0) (T := TX0) (N := 3) (ty0 := tyX0) dX0_enter_26 rfl (gT_u tU_X0) tyX0_ok nmX0 (by decide) (List.mem_cons_of_mem _ tF_X0_13) (Or.inl rfl) rfl rfl h (fun A6 _ h => ?_)
    exact AW_fewer (fw_d (fw_d fw_n)) (t_X0_enter_29 N _ _ h)
def f_X0_enter (N : Nat) (A : hP) (x0 : Option Nat) (x1 : Int32) : Option (Unit × hP) := f_X0_enter_0 N A x0 x1
set_option maxRecDepth 20000 in
theorem c_X0_enter {l : Launch} (N : Nat) (A : hP) (x0 : Option Nat) (x1 : Int32) (res : Unit × hP) (h : f_X0_enter N A x0 x1 = some res) : Ct l mX0_enter 0 0 0 A [va_rf x0, .int x1] (gu res) := Ct.of (lv := [(0, va_rf x0), (1, .int x1)]) (ls := [some (va_rf x0), some (.int x1)]) (by decide) (by simp [lv_args, g_cat_rf, cat_i, cat_l]) rfl (by simp [g_cat_rf, cat_i, cat_l]) (fun G => (t_X0_enter_0 N A x0 x1 res h))
abbrev mX7_init : gM := gMk yX7_init cX7_init 3 none
def f_X7_init_0 (N : Nat) (A : hP) (x0 : Option Nat) (x1 : Int32) (x2 : Int32) : Option (Unit × hP) := (oOb A x0).bind fun _ => (oPT A x0 0 (.int x1)).bind fun A1 => (oPT A1 x0 1 (.int x2)).bind fun A2 => some ((), A2)
set_option maxRecDepth 20000 in
set_option maxHeartbeats 4000000 in
theorem t_X7_init_0 {l : Launch} {G : gS} (N : Nat) (A : hP) (x0 : Option Nat) (x1 : Int32) (x2 : Int32) (res : Unit × hP) (h : f_X7_init_0 N A x0 x1 x2 = some res) : AW l mX7_init (g_rm 1 0 0) G (g_Qf G (gu res) 0 0) A 0 0 0 [some (va_rf x0), some (.int x1), some (.int x2)] [] := by
  unfold f_X7_init_0 at h
  refine AW_aload_n dX7_init_0 rfl ?_
  refine AW_objInit dX7_init_1 gT_s tM_X7_1 tI_obj tY_obj ⟨by decide, by decide⟩ (Nat.le_of_ble_eq_true rfl) h (fun h => ?_)
  refine AW_aload_n dX7_init_4 rfl ?_
  refine AW_iload_n dX7_init_5 rfl ?_
  refine AW_putT (k0 := 0) (nm := "number") (x := x1) (by decide) rfl rfl rfl gT_s dX7_init_6 (List.mem_cons_of_mem _ tF_X7_7) h (fun A1 h => ?_)
  refine AW_aload_n dX7_init_9 rfl ?_
  refine AW_iload_n dX7_init_10 rfl ?_
  refine AW_putT (k0 := 1) (nm := "weight") (x := x2) (by decide) rfl rfl rfl gT_s dX7_init_11 (List.mem_cons_of_mem _ tF_X7_13) h (fun A2 h => ?_)
  exact AW_vret dX7_init_14 rfl ⟨Nat.zero_le _, Nat.zero_le _⟩ h
def f_X7_init (N : Nat) (A : hP) (x0 : Option Nat) (x1 : Int32) (x2 : Int32) : Option (Unit × hP) := f_X7_init_0 N A x0 x1 x2
set_option maxRecDepth 20000 in
theorem c_X7_init {l : Launch} (N : Nat) (A : hP) (x0 : Option Nat) (x1 : Int32) (x2 : Int32) (res : Unit × hP) (h : f_X7_init N A x0 x1 x2 = some res) : Ct l mX7_init 1 0 0 A [va_rf x0, .int x1, .int x2] (gu res) := Ct.of (lv := [(0, va_rf x0), (1, .int x1), (2, .int x2)]) (ls := [some (va_rf x0), some (.int x1), some (.int x2)]) (by decide) (by simp [lv_args, g_cat_rf, cat_i, cat_l]) rfl (by simp [g_cat_rf, cat_i, cat_l]) (fun G => (t_X7_init_0 N A x0 x1 x2 res h))
abbrev mX4_init : gM := gMk yX4_init cX4_init 3 none
def f_X4_init_0 (N : Nat) (A : hP) (x0 : Option Nat) (x1 : Int32) (x2 : Int32) : Option (Unit × hP) := (oOb A x0).bind fun _ => (f_X7_init N A x0 x1 x2).bind fun q1 => some ((), q1.2)
set_option maxRecDepth 20000 in
set_option maxHeartbeats 4000000 in
theorem t_X4_init_0 {l : Launch} {G : gS} (N : Nat) (A : hP) (x0 : Option Nat) (x1 : Int32) (x2 : Int32) (res : Unit × hP) (h : f_X4_init_0 N A x0 x1 x2 = some res) : AW l mX4_init (g_rm 2 0 0) G (g_Qf G (gu res) 0 0) A 0 0 0 [some (va_rf x0), some (.int x1), some (.int x2)] [] := by
  unfold f_X4_init_0 at h
  refine AW_aload_n dX4_init_0 rfl ?_
  refine AW_iload_n dX4_init_1 rfl ?_
  refine AW_iload_n dX4_init_2 rfl ?_
  refine AW_callIu (y := yX7_init) (cc := cX7_init) (n := 3) (d := 1) (mc := 0) (ms := 0) (np := 2) (As := [.int x1, .int x2]) (st := []) dX4_init_3 gT_s tM_X4_1 tI_X7_init tIni_X7 tY_X7_init rfl (by decide +kernel) ⟨by decide, by decide⟩ ⟨by decide, by decide⟩ (Nat.le_of_ble_eq_true rfl) rfl h (fun q hq => c_X7_init N _ _ _ _ q hq) (fun q1 _ h => ?_)
  exact AW_vret dX4_init_6 rfl ⟨Nat.zero_le _, Nat.zero_le _⟩ h
def f_X4_init (N : Nat) (A : hP) (x0 : Option Nat) (x1 : Int32) (x2 : Int32) : Option (Unit × hP) := f_X4_init_0 N A x0 x1 x2
set_option maxRecDepth 20000 in
theorem c_X4_init {l : Launch} (N : Nat) (A : hP) (x0 : Option Nat) (x1 : Int32) (x2 : Int32) (res : Unit × hP) (h : f_X4_init N A x0 x1 x2 = some res) : Ct l mX4_init 2 0 0 A [va_rf x0, .int x1, .int x2] (gu res) := Ct.of (lv := [(0, va_rf x0), (1, .int x1), (2, .int x2)]) (ls := [some (va_rf x0), some (.int x1), some (.int x2)]) (by decide) (by simp [lv_args, g_cat_rf, cat_i, cat_l]) rfl (by simp [g_cat_rf, cat_i, cat_l]) (fun G => (t_X4_init_0 N A x0 x1 x2 res h))
abbrev mX5_init : gM := gMk yX5_init cX5_init 3 none
def f_X5_init_0 (N : Nat) (A : hP) (x0 : Option Nat) (x1 : Int32) (x2 : Int32) : Option (Unit × hP) := (oOb A x0).bind fun _ => (f_X7_init N A x0 x1 x2).bind fun q1 => some ((), q1.2)
set_option maxRecDepth 20000 in
set_option maxHeartbeats 4000000 in
theorem t_X5_init_0 {l : Launch} {G : gS} (N : Nat) (A : hP) (x0 : Option Nat) (x1 : Int32) (x2 : Int32) (res : Unit × hP) (h : f_X5_init_0 N A x0 x1 x2 = some res) : AW l mX5_init (g_rm 2 0 0) G (g_Qf G (gu res) 0 0) A 0 0 0 [some (va_rf x0), some (.int x1), some (.int x2)] [] := by
  unfold f_X5_init_0 at h
  refine AW_aload_n dX5_init_0 rfl ?_
  refine AW_iload_n dX5_init_1 rfl ?_
  refine AW_iload_n dX5_init_2 rfl ?_
  refine AW_callIu (y := yX7_init) (cc := cX7_init) (n := 3) (d := 1) (mc := 0) (ms := 0) (np := 2) (As := [.int x1, .int x2]) (st := []) dX5_init_3 gT_s tM_X5_1 tI_X7_init tIni_X7 tY_X7_init rfl (by decide +kernel) ⟨by decide, by decide⟩ ⟨by decide, by decide⟩ (Nat.le_of_ble_eq_true rfl) rfl h (fun q hq => c_X7_init N _ _ _ _ q hq) (fun q1 _ h => ?_)
  exact AW_vret dX5_init_6 rfl ⟨Nat.zero_le _, Nat.zero_le _⟩ h
def f_X5_init (N : Nat) (A : hP) (x0 : Option Nat) (x1 : Int32) (x2 : Int32) : Option (Unit × hP) := f_X5_init_0 N A x0 x1 x2
set_option maxRecDepth 20000 in
theorem c_X5_init {l : Launch} (N : Nat) (A : hP) (x0 : Option Nat) (x1 : Int32) (x2 : Int32) (res : Unit × hP) (h : f_X5_init N A x0 x1 x2 = some res) : Ct l mX5_init 2 0 0 A [va_rf x0, .int x1, .int x2] (gu res) := Ct.of (lv := [(0, va_rf x0), (1, .int x1), (2, .int x2)]) (ls := [some (va_rf x0), some (.int x1), some (.int x2)]) (by decide) (by simp [lv_args, g_cat_rf, cat_i, cat_l]) rfl (by simp [g_cat_rf, cat_i, cat_l]) (fun G => (t_X5_init_0 N A x0 x1 x2 res h))
abbrev mX1_init : gM := gMk yX1_init cX1_init 3 none
def f_X1_init_0 (N : Nat) (A : hP) (x0 : Option Nat) (x1 : Int32) (x2 : Int32) : Option (Unit × hP) := (oOb A x0).bind fun _ => (f_X4_init N A x0 x1 x2).bind fun q1 => some ((), q1.2)
set_option maxRecDepth 20000 in
set_option maxHeartbeats 4000000 in
theorem t_X1_init_0 {l : Launch} {G : gS} (N : Nat) (A : hP) (x0 : Option Nat) (x1 : Int32) (x2 : Int32) (res : Unit × hP) (h : f_X1_init_0 N A x0 x1 x2 = some res) : AW l mX1_init (g_rm 3 0 0) G (g_Qf G (gu res) 0 0) A 0 0 0 [some (va_rf x0), some (.int x1), some (.int x2)] [] := by
  unfold f_X1_init_0 at h
  refine AW_aload_n dX1_init_0 rfl ?_
  refine AW_iload_n dX1_init_1 rfl ?_
  refine AW_iload_n dX1_init_2 rfl ?_
  refine AW_callIu (y := yX4_init) (cc := cX4_init) (n := 3) (d := 2) (mc := 0) (ms := 0) (np := 2) (As := [.int x1, .int x2]) (st := []) dX1_init_3 gT_s tM_X1_1 tI_X4_init tIni_X4 tY_X4_init rfl (by decide +kernel) ⟨by decide, by decide⟩ ⟨by decide, by decide⟩ (Nat.le_of_ble_eq_true rfl) rfl h (fun q hq => c_X4_init N _ _ _ _ q hq) (fun q1 _ h => ?_)
  exact AW_vret dX1_init_6 rfl ⟨Nat.zero_le _, Nat.zero_le _⟩ h
def f_X1_init (N : Nat) (A : hP) (x0 : Option Nat) (x1 : Int32) (x2 : Int32) : Option (Unit × hP) := f_X1_init_0 N A x0 x1 x2
set_option maxRecDepth 20000 in
theorem c_X1_init {l : Launch} (N : Nat) (A : hP) (x0 : Option Nat) (x1 : Int32) (x2 : Int32) (res : Unit × hP) (h : f_X1_init N A x0 x1 x2 = some res) : Ct l mX1_init 3 0 0 A [va_rf x0, .int x1, .int x2] (gu res) := Ct.of (lv := [(0, va_rf x0), (1, .int x1), (2, .int x2)]) (ls := [some (va_rf x0), some (.int x1), some (.int x2)]) (by decide) (by simp [lv_args, g_cat_rf, cat_i, cat_l]) rfl (by simp [g_cat_rf, cat_i, cat_l]) (fun G => (t_X1_init_0 N A x0 x1 x2 res h))
abbrev mX8_init : gM := gMk yX8_init cX8_init 3 none
def f_X8_init_0 (N : Nat) (A : hP) (x0 : Option Nat) (x1 : Int32) (x2 : Int32) : Option (Unit × hP) := (oOb A x0).bind fun _ => (f_X5_init N A x0 x1 x2).bind fun q1 => some ((), q1.2)
set_option maxRecDepth 20000 in
set_option maxHeartbeats 4000000 in
theorem t_X8_init_0 {l : Launch} {G : gS} (N : Nat) (A : hP) (x0 : Option Nat) (x1 : Int32) (x2 : Int32) (res : Unit × hP) (h : f_X8_init_0 N A x0 x1 x2 = some res) : AW l mX8_init (g_rm 3 0 0) G (g_Qf G (gu res) 0 0) A 0 0 0 [some (va_rf x0), some (.int x1), some (.int x2)] [] := by
  unfold f_X8_init_0 at h
  refine AW_aload_n dX8_init_0 rfl ?_
  refine AW_iload_n dX8_init_1 rfl ?_
  refine AW_iload_n dX8_init_2 rfl ?_
  refine AW_callIu (y := yX5_init) (cc := cX5_init) (n := 3) (d := 2) (mc := 0) (ms := 0) (np := 2) (As := [.int x1, .int x2]) (st := []) dX8_init_3 gT_s tM_X8_1 tI_X5_init tIni_X5 tY_X5_init rfl (by decide +kernel) ⟨by decide, by decide⟩ ⟨by decide, by decide⟩ (Nat.le_of_ble_eq_true rfl) rfl h (fun q hq => c_X5_init N _ _ _ _ q hq) (fun q1 _ h => ?_)
  exact AW_vret dX8_init_6 rfl ⟨Nat.zero_le _, Nat.zero_le _⟩ h
def f_X8_init (N : Nat) (A : hP) (x0 : Option Nat) (x1 : Int32) (x2 : Int32) : Option (Unit × hP) := f_X8_init_0 N A x0 x1 x2
set_option maxRecDepth 20000 in
theorem c_X8_init {l : Launch} (N : Nat) (A : hP) (x0 : Option Nat) (x1 : Int32) (x2 : Int32) (res : Unit × hP) (h : f_X8_init N A x0 x1 x2 = some res) : Ct l mX8_init 3 0 0 A [va_rf x0, .int x1, .int x2] (gu res) := Ct.of (lv := [(0, va_rf x0), (1, .int x1), (2, .int x2)]) (ls := [some (va_rf x0), some (.int x1), some (.int x2)]) (by decide) (by simp [lv_args, g_cat_rf, cat_i, cat_l]) rfl (by simp [g_cat_rf, cat_i, cat_l]) (fun G => (t_X8_init_0 N A x0 x1 x2 res h))
abbrev mX9_init : gM := gMk yX9_init cX9_init 3 none
def f_X9_init_0 (N : Nat) (A : hP) (x0 : Option Nat) (x1 : Int32) (x2 : Int32) : Option (Unit × hP) := (oOb A x0).bind fun _ => (f_X4_init N A x0 x1 x2).bind fun q1 => some ((), q1.2)
set_option maxRecDepth 20000 in
set_option maxHeartbeats 4000000 in
theorem t_X9_init_0 {l : Launch} {G : gS} (N : Nat) (A : hP) (x0 : Option Nat) (x1 : Int32) (x2 : Int32) (res : Unit × hP) (h : f_X9_init_0 N A x0 x1 x2 = some res) : AW l mX9_init (g_rm 3 0 0) G (g_Qf G (gu res) 0 0) A 0 0 0 [some (va_rf x0), some (.int x1), some (.int x2)] [] := by
  unfold f_X9_init_0 at h
  refine AW_aload_n dX9_init_0 rfl ?_
  refine AW_iload_n dX9_init_1 rfl ?_
  refine AW_iload_n dX9_init_2 rfl ?_
  refine AW_callIu (y := yX4_init) (cc := cX4_init) (n := 3) (d := 2) (mc := 0) (ms := 0) (np := 2) (As := [.int x1, .int x2]) (st := []) dX9_init_3 gT_s tM_X9_1 tI_X4_init tIni_X4 tY_X4_init rfl (by decide +kernel) ⟨by decide, by decide⟩ ⟨by decide, by decide⟩ (Nat.le_of_ble_eq_true rfl) rfl h (fun q hq => c_X4_init N _ _ _ _ q hq) (fun q1 _ h => ?_)
  exact AW_vret dX9_init_6 rfl ⟨Nat.zero_le _, Nat.zero_le _⟩ h
def f_X9_init (N : Nat) (A : hP) (x0 : Option Nat) (x1 : Int32) (x2 : Int32) : Option (Unit × hP) := f_X9_init_0 N A x0 x1 x2
set_option maxRecDepth 20000 in
theorem c_X9_init {l : Launch} (N : Nat) (A : hP) (x0 : Option Nat) (x1 : Int32) (x2 : Int32) (res : Unit × hP) (h : f_X9_init N A x0 x1 x2 = some res) : Ct l mX9_init 3 0 0 A [va_rf x0, .int x1, .int x2] (gu res) := Ct.of (lv := [(0, va_rf x0), (1, .int x1), (2, .int x2)]) (ls := [some (va_rf x0), some (.int x1), some (.int x2)]) (by decide) (by simp [lv_args, g_cat_rf, cat_i, cat_l]) rfl (by simp [g_cat_rf, cat_i, cat_l]) (fun G => (t_X9_init_0 N A x0 x1 x2 res h))
abbrev mX4_kindNumber : gM := gMk yX4_kindNumber cX4_kindNumber 1 (some .int)
def f_X4_kindNumber_0 (N : Nat) (A : hP) : Option (Int32 × hP) := some ((1 : Int32), A)
set_option maxRecDepth 20000 in
set_option maxHeartbeats 4000000 in
theorem t_X4_kindNumber_0 {l : Launch} {G : gS} (N : Nat) (A : hP) (res : Int32 × hP) (h : f_X4_kindNumber_0 N A  = some res) : AW l mX4_kindNumber (g_rm 0 0 0) G (g_Qf G (gi res) 0 0) A 0 0 0 [none] [] := by
  unfold f_X4_kindNumber_0 at h
  refine AW_iconst (v := 1) dX4_kindNumber_0 (by decide) ?_
  exact AW_iret dX4_kindNumber_1 rfl ⟨Nat.zero_le _, Nat.zero_le _⟩ h
def f_X4_kindNumber (N : Nat) (A : hP) (x0 : Option Nat) : Option (Int32 × hP) := f_X4_kindNumber_0 N A 
set_option maxRecDepth 20000 in
theorem c_X4_kindNumber {l : Launch} (N : Nat) (A : hP) (x0 : Option Nat) (res : Int32 × hP) (h : f_X4_kindNumber N A x0 = some res) : Ct l mX4_kindNumber 0 0 0 A [va_rf x0] (gi res) := Ct.of (lv := [(0, va_rf x0)]) (ls := [some (va_rf x0)]) (by decide) (by simp [lv_args, g_cat_rf, cat_i, cat_l]) rfl (by simp [g_cat_rf, cat_i, cat_l]) (fun G => AW_fewer (fw_d fw_n) (t_X4_kindNumber_0 N A  res h))
abbrev mX1_kindNumber : gM := gMk yX1_kindNumber cX1_kindNumber 1 (some .int)
def f_X1_kindNumber_0 (N : Nat) (A : hP) : Option (Int32 × hP) := some ((2 : Int32), A)
set_option maxRecDepth 20000 in
set_option maxHeartbeats 4000000 in
theorem t_X1_kindNumber_0 {l : Launch} {G : gS} (N : Nat) (A : hP) (res : Int32 × hP) (h : f_X1_kindNumber_0 N A  = some res) : AW l mX1_kindNumber (g_rm 0 0 0) G (g_Qf G (gi res) 0 0) A 0 0 0 [none] [] := by
  unfold f_X1_kindNumber_0 at h
  refine AW_iconst (v := 2) dX1_kindNumber_0 (by decide) ?_
  exact AW_iret dX1_kindNumber_1 rfl ⟨Nat.zero_le _, Nat.zero_le _⟩ h
def f_X1_kindNumber (N : Nat) (A : hP) (x0 : Option Nat) : Option (Int32 × hP) := f_X1_kindNumber_0 N A 
set_option maxRecDepth 20000 in
theorem c_X1_kindNumber {l : Launch} (N : Nat) (A : hP) (x0 : Option Nat) (res : Int32 × hP) (h : f_X1_kindNumber N A x0 = some res) : Ct l mX1_kindNumber 0 0 0 A [va_rf x0] (gi res) := Ct.of (lv := [(0, va_rf x0)]) (ls := [some (va_rf x0)]) (by decide) (by simp [lv_args, g_cat_rf, cat_i, cat_l]) rfl (by simp [g_cat_rf, cat_i, cat_l]) (fun G => AW_fewer (fw_d fw_n) (t_X1_kindNumber_0 N A  res h))
abbrev mX9_kindNumber : gM := gMk yX9_kindNumber cX9_kindNumber 1 (some .int)
def f_X9_kindNumber_0 (N : Nat) (A : hP) : Option (Int32 × hP) := some ((3 : Int32), A)
set_option maxRecDepth 20000 in
set_option maxHeartbeats 4000000 in
theorem t_X9_kindNumber_0 {l : Launch} {G : gS} (N : Nat) (A : hP) (res : Int32 × hP) (h : f_X9_kindNumber_0 N A  = some res) : AW l mX9_kindNumber (g_rm 0 0 0) G (g_Qf G (gi res) 0 0) A 0 0 0 [none] [] := by
  unfold f_X9_kindNumber_0 at h
  refine AW_iconst (v := 3) dX9_kindNumber_0 (by decide) ?_
  exact AW_iret dX9_kindNumber_1 rfl ⟨Nat.zero_le _, Nat.zero_le _⟩ h
def f_X9_kindNumber (N : Nat) (A : hP) (x0 : Option Nat) : Option (Int32 × hP) := f_X9_kindNumber_0 N A 
set_option maxRecDepth 20000 in
theorem c_X9_kindNumber {l : Launch} (N : Nat) (A : hP) (x0 : Option Nat) (res : Int32 × hP) (h : f_X9_kindNumber N A x0 = some res) : Ct l mX9_kindNumber 0 0 0 A [va_rf x0] (gi res) := Ct.of (lv := [(0, va_rf x0)]) (ls := [some (va_rf x0)]) (by decide) (by simp [lv_args, g_cat_rf, cat_i, cat_l]) rfl (by simp [g_cat_rf, cat_i, cat_l]) (fun G => AW_fewer (fw_d fw_n) (t_X9_kindNumber_0 N A  res h))
abbrev mX5_kindNumber : gM := gMk yX5_kindNumber cX5_kindNumber 1 (some .int)
def f_X5_kindNumber_0 (N : Nat) (A : hP) : Option (Int32 × hP) := some ((4 : Int32), A)
set_option maxRecDepth 20000 in
set_option maxHeartbeats 4000000 in
theorem t_X5_kindNumber_0 {l : Launch} {G : gS} (N : Nat) (A : hP) (res : Int32 × hP) (h : f_X5_kindNumber_0 N A  = some res) : AW l mX5_kindNumber (g_rm 0 0 0) G (g_Qf G (gi res) 0 0) A 0 0 0 [none] [] := by
  unfold f_X5_kindNumber_0 at h
  refine AW_iconst (v := 4) dX5_kindNumber_0 (by decide) ?_
  exact AW_iret dX5_kindNumber_1 rfl ⟨Nat.zero_le _, Nat.zero_le _⟩ h
def f_X5_kindNumber (N : Nat) (A : hP) (x0 : Option Nat) : Option (Int32 × hP) := f_X5_kindNumber_0 N A 
set_option maxRecDepth 20000 in
theorem c_X5_kindNumber {l : Launch} (N : Nat) (A : hP) (x0 : Option Nat) (res : Int32 × hP) (h : f_X5_kindNumber N A x0 = some res) : Ct l mX5_kindNumber 0 0 0 A [va_rf x0] (gi res) := Ct.of (lv := [(0, va_rf x0)]) (ls := [some (va_rf x0)]) (by decide) (by simp [lv_args, g_cat_rf, cat_i, cat_l]) rfl (by simp [g_cat_rf, cat_i, cat_l]) (fun G => AW_fewer (fw_d fw_n) (t_X5_kindNumber_0 N A  res h))
abbrev mX8_kindNumber : gM := gMk yX8_kindNumber cX8_kindNumber 1 (some .int)
def f_X8_kindNumber_0 (N : Nat) (A : hP) : Option (Int32 × hP) := some ((5 : Int32), A)
set_option maxRecDepth 20000 in
set_option maxHeartbeats 4000000 in
theorem t_X8_kindNumber_0 {l : Launch} {G : gS} (N : Nat) (A : hP) (res : Int32 × hP) (h : f_X8_kindNumber_0 N A  = some res) : AW l mX8_kindNumber (g_rm 0 0 0) G (g_Qf G (gi res) 0 0) A 0 0 0 [none] [] := by
  unfold f_X8_kindNumber_0 at h
  refine AW_iconst (v := 5) dX8_kindNumber_0 (by decide) ?_
  exact AW_iret dX8_kindNumber_1 rfl ⟨Nat.zero_le _, Nat.zero_le _⟩ h
def f_X8_kindNumber (N : Nat) (A : hP) (x0 : Option Nat) : Option (Int32 × hP) := f_X8_kindNumber_0 N A 
set_option maxRecDepth 20000 in
theorem c_X8_kindNumber {l : Launch} (N : Nat) (A : hP) (x0 : Option Nat) (res : Int32 × hP) (h : f_X8_kindNumber N A x0 = some res) : Ct l mX8_kindNumber 0 0 0 A [va_rf x0] (gi res) := Ct.of (lv := [(0, va_rf x0)]) (ls := [some (va_rf x0)]) (by decide) (by simp [lv_args, g_cat_rf, cat_i, cat_l]) rfl (by simp [g_cat_rf, cat_i, cat_l]) (fun G => AW_fewer (fw_d fw_n) (t_X8_kindNumber_0 N A  res h))
def v_X7_kindNumber (N : Nat) (A : hP) (r : Option Nat)  : Option (Int32 × hP) := (oC A r).bind fun c => if c = 1 then f_X1_kindNumber N A r  else (if c = 4 then f_X4_kindNumber N A r  else (if c = 5 then f_X5_kindNumber N A r  else (if c = 7 then f_X8_kindNumber N A r  else (if c = 8 then f_X9_kindNumber N A r  else none))))
set_option maxRecDepth 20000 in
theorem AW_v_X7_kindNumber {l : Launch} {M : gM} {R : Room} {G : gS} {Qf : Array Value → State → List Frame → State → Prop} {A : hP} {pc : Nat} {ls : List (Option Value)} {st : List Value} {β : Type} {res : β} (N : Nat) {i : Nat} {r : Option Nat}  {f : Int32 × hP → Option β} (hd : decode M.2.1 pc = .ok (.invokevirtual i, 3)) (hT : ∀ w ∈ gT, w ∈ M.2.2.2.2) (hlk : Cond.methodLink M.1.cls i (⟨RX7, "kindNumber", "()I"⟩ : MethodName) ∈ gT) (hfr : 1 ≤ R.frames) (hlo : 20 ≤ R.locals) (hst : st.length ≤ 4) (h : (v_X7_kindNumber N A r ).bind f = some res) (k : ∀ q, f q = some res → AW l M R G Qf q.2 0 0 (pc + 3) ls (.int q.1 :: st)) : AW l M R G Qf A 0 0 pc ls (va_rf r :: st) := by
  obtain ⟨q, h1, h2⟩ := bd h
  unfold v_X7_kindNumber at h1
  obtain ⟨c, h3, h4⟩ := bd h1
  by_cases hc : c = 1
  · subst hc
    rw [if_pos rfl] at h4
    refine AW_callUi (y := yX1_kindNumber) (cc := cX1_kindNumber) (n := 1) (d := 0) (mc := 0) (ms := 0) (np := 0) (ret := (some .int)) (As := []) (st := st) (ci := 1) (x := (⟨RX7, "kindNumber", "()I"⟩ : MethodName)) (F := f_X1_kindNumber N A r ) (f := f) hd hT rfl hlk tSam_X7_X7_kindNumber (fun U _ h => va_Decl.abs h.2.2.2.2.1) tI_X1_kindNumber tSel_X1_X7_X1_kindNumber tIni_X1 tY_X1_kindNumber (by decide +kernel) ⟨by omega, by omega⟩ ⟨Nat.zero_le _, Nat.zero_le _⟩ hst rfl ?_ (fun q hq => c_X1_kindNumber N _ _ q hq) (fun q _ h => k q h)
    rw [show oCk A r 1 = some () from if_pos h3]
    show (f_X1_kindNumber N A r ).bind f = some res
    rw [h4]; exact h2
  rw [if_neg hc] at h4
  by_cases hc : c = 4
  · subst hc
    rw [if_pos rfl] at h4
    refine AW_callUi (y := yX4_kindNumber) (cc := cX4_kindNumber) (n := 1) (d := 0) (mc := 0) (ms := 0) (np := 0) (ret := (some .int)) (As := []) (st := st) (ci := 4) (x := (⟨RX7, "kindNumber", "()I"⟩ : MethodName)) (F := f_X4_kindNumber N A r ) (f := f) hd hT rfl hlk tSam_X7_X7_kindNumber (fun U _ h => va_Decl.abs h.2.2.2.2.1) tI_X4_kindNumber tSel_X4_X7_X4_kindNumber tIni_X4 tY_X4_kindNumber (by decide +kernel) ⟨by omega, by omega⟩ ⟨Nat.zero_le _, Nat.zero_le _⟩ hst rfl ?_ (fun q hq => c_X4_kindNumber N _ _ q hq) (fun q _ h => k q h)
    rw [show oCk A r 4 = some () from if_pos h3]
    show (f_X4_kindNumber N A r ).bind f = some res
    rw [h4]; exact h2
  rw [if_neg hc] at h4
  by_cases hc : c = 5
  · subst hc
    rw [if_pos rfl] at h4
    refine AW_callUi (y := yX5_kindNumber) (cc := cX5_kindNumber) (n := 1) (d := 0) (mc := 0) (ms := 0) (np := 0) (ret := (some .int)) (As := []) (st := st) (ci := 5) (x := (⟨RX7, "kindNumber", "()I"⟩ : MethodName)) (F := f_X5_kindNumber N A r ) (f := f) hd hT rfl hlk tSam_X7_X7_kindNumber (fun U _ h => va_Decl.abs h.2.2.2.2.1) tI_X5_kindNumber tSel_X5_X7_X5_kindNumber tIni_X5 tY_X5_kindNumber (by decide +kernel) ⟨by omega, by omega⟩ ⟨Nat.zero_le _, Nat.zero_le _⟩ hst rfl ?_ (fun q hq => c_X5_kindNumber N _ _ q hq) (fun q _ h => k q h)
    rw [show oCk A r 5 = some () from if_pos h3]
    show (f_X5_kindNumber N A r ).bind f = some res
    rw [h4]; exact h2
  rw [if_neg hc] at h4
  by_cases hc : c = 7
  · subst hc
    rw [if_pos rfl] at h4
    refine AW_callUi (y := yX8_kindNumber) (cc := cX8_kindNumber) (n := 1) (d := 0) (mc := 0) (ms := 0) (np := 0) (ret := (some .int)) (As := []) (st := st) (ci := 7) (x := (⟨RX7, "kindNumber", "()I"⟩ : MethodName)) (F := f_X8_kindNumber N A r ) (f := f) hd hT rfl hlk tSam_X7_X7_kindNumber (fun U _ h => va_Decl.abs h.2.2.2.2.1) tI_X8_kindNumber tSel_X8_X7_X8_kindNumber tIni_X8 tY_X8_kindNumber (by decide +kernel) ⟨by omega, by omega⟩ ⟨Nat.zero_le _, Nat.zero_le _⟩ hst rfl ?_ (fun q hq => c_X8_kindNumber N _ _ q hq) (fun q _ h => k q h)
    rw [show oCk A r 7 = some () from if_pos h3]
    show (f_X8_kindNumber N A r ).bind f = some res
    rw [h4]; exact h2
  rw [if_neg hc] at h4
  by_cases hc : c = 8
  · subst hc
    rw [if_pos rfl] at h4
    refine AW_callUi (y := yX9_kindNumber) (cc := cX9_kindNumber) (n := 1) (d := 0) (mc := 0) (ms := 0) (np := 0) (ret := (some .int)) (As := []) (st := st) (ci := 8) (x := (⟨RX7, "kindNumber", "()I"⟩ : MethodName)) (F := f_X9_kindNumber N A r ) (f := f) hd hT rfl hlk tSam_X7_X7_kindNumber (fun U _ h => va_Decl.abs h.2.2.2.2.1) tI_X9_kindNumber tSel_X9_X7_X9_kindNumber tIni_X9 tY_X9_kindNumber (by decide +kernel) ⟨by omega, by omega⟩ ⟨Nat.zero_le _, Nat.zero_le _⟩ hst rfl ?_ (fun q hq => c_X9_kindNumber N _ _ q hq) (fun q _ h => k q h)
    rw [show oCk A r 8 = some () from if_pos h3]
    show (f_X9_kindNumber N A r ).bind f = some res
    rw [h4]; exact h2
  rw [if_neg hc] at h4
  cases h4
abbrev mX7_heavyWith : gM := gMk yX7_heavyWith cX7_heavyWith 3 (some .int)
def f_X7_heavyWith_0 (N : Nat) (A : hP) (x1 : Int32) : Option (Int32 × hP) := some (x1, A)
set_option maxRecDepth 20000 in
set_option maxHeartbeats 4000000 in
theorem t_X7_heavyWith_0 {l : Launch} {G : gS} (N : Nat) (A : hP) (x1 : Int32) (res : Int32 × hP) (h : f_X7_heavyWith_0 N A x1 = some res) : AW l mX7_heavyWith (g_rm 0 0 0) G (g_Qf G (gi res) 0 0) A 0 0 0 [none, some (.int x1), none] [] := by
  unfold f_X7_heavyWith_0 at h
  refine AW_iload_n dX7_heavyWith_0 rfl ?_
  exact AW_iret dX7_heavyWith_1 rfl ⟨Nat.zero_le _, Nat.zero_le _⟩ h
def f_X7_heavyWith (N : Nat) (A : hP) (x0 : Option Nat) (x1 : Int32) (x2 : Int32) : Option (Int32 × hP) := f_X7_heavyWith_0 N A x1
set_option maxRecDepth 20000 in
theorem c_X7_heavyWith {l : Launch} (N : Nat) (A : hP) (x0 : Option Nat) (x1 : Int32) (x2 : Int32) (res : Int32 × hP) (h : f_X7_heavyWith N A x0 x1 x2 = some res) : Ct l mX7_heavyWith 0 0 0 A [va_rf x0, .int x1, .int x2] (gi res) := Ct.of (lv := [(0, va_rf x0), (1, .int x1), (2, .int x2)]) (ls := [some (va_rf x0), some (.int x1), some (.int x2)]) (by decide) (by simp [lv_args, g_cat_rf, cat_i, cat_l]) rfl (by simp [g_cat_rf, cat_i, cat_l]) (fun G => AW_fewer (fw_d (fw_k (fw_d fw_n))) (t_X7_heavyWith_0 N A x1 res h))
abbrev mX1_heavyWith : gM := gMk yX1_heavyWith cX1_heavyWith 4 (some .int)
def f_X1_heavyWith_15 (N : Nat) (A : hP) (s0 : Int32) : Option (Int32 × hP) := some (s0, A)
set_option maxRecDepth 20000 in
set_option maxHeartbeats 4000000 in
theorem t_X1_heavyWith_15 {l : Launch} {G : gS} (N : Nat) (A : hP) (s0 : Int32) (res : Int32 × hP) (h : f_X1_heavyWith_15 N A s0 = some res) : AW l mX1_heavyWith (g_rm 0 0 0) G (g_Qf G (gi res) 0 0) A 0 0 15 [none, none, none, none] [.int s0] := by
  unfold f_X1_heavyWith_15 at h
  exact AW_iret dX1_heavyWith_15 rfl ⟨Nat.zero_le _, Nat.zero_le _⟩ h
def f_X1_heavyWith_0 (N : Nat) (A : hP) (x1 : Int32) (x2 : Int32) : Option (Int32 × hP) := (oDv x2 (3 : Int32)).bind fun v1 => if (x1 - v1) ≤ (0) then (f_X1_heavyWith_15 N A (0 : Int32)) else (f_X1_heavyWith_15 N A (x1 - v1))
set_option maxRecDepth 20000 in
set_option maxHeartbeats 4000000 in
theorem t_X1_heavyWith_0 {l : Launch} {G : gS} (N : Nat) (A : hP) (x1 : Int32) (x2 : Int32) (res : Int32 × hP) (h : f_X1_heavyWith_0 N A x1 x2 = some res) : AW l mX1_heavyWith (g_rm 0 0 0) G (g_Qf G (gi res) 0 0) A 0 0 0 [none, some (.int x1), some (.int x2), none] [] := by
  unfold f_X1_heavyWith_0 at h
  refine AW_iload_n dX1_heavyWith_0 rfl ?_
  refine AW_iload_n dX1_heavyWith_1 rfl ?_
  refine AW_iconst (v := 3) dX1_heavyWith_2 (by decide) ?_
  refine AW_div dX1_heavyWith_3 h (fun v1 _ h => ?_)
  refine AW_isub dX1_heavyWith_4 ?_
  refine AW_istore_n (ls' := [none, some (.int x1), some (.int x2), some (.int (x1 - v1))]) dX1_heavyWith_5 (c1_i rfl) (by decide) rfl ?_
  refine AW_iload_n dX1_heavyWith_6 rfl ?_
  refine AW_if_le (tgt := 14) dX1_heavyWith_7 (by decide) h (fun _ h => ?_) (fun _ h => ?_)
  · refine AW_iconst (v := 0) dX1_heavyWith_14 (by decide) ?_
    exact AW_fewer (fw_k (fw_d (fw_d (fw_d fw_n)))) (t_X1_heavyWith_15 N _ _ _ h)
  · refine AW_iload_n dX1_heavyWith_10 rfl ?_
    refine AW_goto (tgt := 15) dX1_heavyWith_11 (by decide) ?_
    exact AW_fewer (fw_k (fw_d (fw_d (fw_d fw_n)))) (t_X1_heavyWith_15 N _ _ _ h)
def f_X1_heavyWith (N : Nat) (A : hP) (x0 : Option Nat) (x1 : Int32) (x2 : Int32) : Option (Int32 × hP) := f_X1_heavyWith_0 N A x1 x2
set_option maxRecDepth 20000 in
theorem c_X1_heavyWith {l : Launch} (N : Nat) (A : hP) (x0 : Option Nat) (x1 : Int32) (x2 : Int32) (res : Int32 × hP) (h : f_X1_heavyWith N A x0 x1 x2 = some res) : Ct l mX1_heavyWith 0 0 0 A [va_rf x0, .int x1, .int x2] (gi res) := Ct.of (lv := [(0, va_rf x0), (1, .int x1), (2, .int x2)]) (ls := [some (va_rf x0), some (.int x1), some (.int x2), none]) (by decide) (by simp [lv_args, g_cat_rf, cat_i, cat_l]) rfl (by simp [g_cat_rf, cat_i, cat_l]) (fun G => AW_fewer (fw_d (fw_k (fw_k (fw_k fw_n)))) (t_X1_heavyWith_0 N A x1 x2 res h))
abbrev mX8_heavyWith : gM := gMk yX8_heavyWith cX8_heavyWith 3 (some .int)
def f_X8_heavyWith_0 (N : Nat) (A : hP) (x1 : Int32) : Option (Int32 × hP) := some ((10 : Int32) * x1, A)
set_option maxRecDepth 20000 in
set_option maxHeartbeats 4000000 in
theorem t_X8_heavyWith_0 {l : Launch} {G : gS} (N : Nat) (A : hP) (x1 : Int32) (res : Int32 × hP) (h : f_X8_heavyWith_0 N A x1 = some res) : AW l mX8_heavyWith (g_rm 0 0 0) G (g_Qf G (gi res) 0 0) A 0 0 0 [none, some (.int x1), none] [] := by
  unfold f_X8_heavyWith_0 at h
  refine AW_bipush (v := 10) dX8_heavyWith_0 (by decide) ?_
  refine AW_iload_n dX8_heavyWith_2 rfl ?_
  refine AW_imul dX8_heavyWith_3 ?_
  exact AW_iret dX8_heavyWith_4 rfl ⟨Nat.zero_le _, Nat.zero_le _⟩ h
def f_X8_heavyWith (N : Nat) (A : hP) (x0 : Option Nat) (x1 : Int32) (x2 : Int32) : Option (Int32 × hP) := f_X8_heavyWith_0 N A x1
set_option maxRecDepth 20000 in
theorem c_X8_heavyWith {l : Launch} (N : Nat) (A : hP) (x0 : Option Nat) (x1 : Int32) (x2 : Int32) (res : Int32 × hP) (h : f_X8_heavyWith N A x0 x1 x2 = some res) : Ct l mX8_heavyWith 0 0 0 A [va_rf x0, .int x1, .int x2] (gi res) := Ct.of (lv := [(0, va_rf x0), (1, .int x1), (2, .int x2)]) (ls := [some (va_rf x0), some (.int x1), some (.int x2)]) (by decide) (by simp [lv_args, g_cat_rf, cat_i, cat_l]) rfl (by simp [g_cat_rf, cat_i, cat_l]) (fun G => AW_fewer (fw_d (fw_k (fw_d fw_n))) (t_X8_heavyWith_0 N A x1 res h))
abbrev mX9_heavyWith : gM := gMk yX9_heavyWith cX9_heavyWith 3 (some .int)
def f_X9_heavyWith_0 (N : Nat) (A : hP) (x1 : Int32) (x2 : Int32) : Option (Int32 × hP) := (oDv x2 (4 : Int32)).bind fun v1 => some (x1 + v1, A)
set_option maxRecDepth 20000 in
set_option maxHeartbeats 4000000 in
theorem t_X9_heavyWith_0 {l : Launch} {G : gS} (N : Nat) (A : hP) (x1 : Int32) (x2 : Int32) (res : Int32 × hP) (h : f_X9_heavyWith_0 N A x1 x2 = some res) : AW l mX9_heavyWith (g_rm 0 0 0) G (g_Qf G (gi res) 0 0) A 0 0 0 [none, some (.int x1), some (.int x2)] [] := by
  unfold f_X9_heavyWith_0 at h
  refine AW_iload_n dX9_heavyWith_0 rfl ?_
  refine AW_iload_n dX9_heavyWith_1 rfl ?_
  refine AW_iconst (v := 4) dX9_heavyWith_2 (by decide) ?_
  refine AW_div dX9_heavyWith_3 h (fun v1 _ h => ?_)
  refine AW_iadd dX9_heavyWith_4 ?_
  exact AW_iret dX9_heavyWith_5 rfl ⟨Nat.zero_le _, Nat.zero_le _⟩ h
def f_X9_heavyWith (N : Nat) (A : hP) (x0 : Option Nat) (x1 : Int32) (x2 : Int32) : Option (Int32 × hP) := f_X9_heavyWith_0 N A x1 x2
set_option maxRecDepth 20000 in
theorem c_X9_heavyWith {l : Launch} (N : Nat) (A : hP) (x0 : Option Nat) (x1 : Int32) (x2 : Int32) (res : Int32 × hP) (h : f_X9_heavyWith N A x0 x1 x2 = some res) : Ct l mX9_heavyWith 0 0 0 A [va_rf x0, .int x1, .int x2] (gi res) := Ct.of (lv := [(0, va_rf x0), (1, .int x1), (2, .int x2)]) (ls := [some (va_rf x0), some (.int x1), some (.int x2)]) (by decide) (by simp [lv_args, g_cat_rf, cat_i, cat_l]) rfl (by simp [g_cat_rf, cat_i, cat_l]) (fun G => AW_fewer (fw_d (fw_k (fw_k fw_n))) (t_X9_heavyWith_0 N A x1 x2 res h))
def v_X7_heavyWith (N : Nat) (A : hP) (r : Option Nat) (a0 : Int32) (a1 : Int32) : Option (Int32 × hP) := (oC A r).bind fun c => if c = 1 then f_X1_heavyWith N A r a0 a1 else (if c = 4 then f_X7_heavyWith N A r a0 a1 else (if c = 5 then f_X7_heavyWith N A r a0 a1 else (if c = 7 then f_X8_heavyWith N A r a0 a1 else (if c = 8 then f_X9_heavyWith N A r a0 a1 else none))))
set_option maxRecDepth 20000 in
theorem AW_v_X7_heavyWith {l : Launch} {M : gM} {R : Room} {G : gS} {Qf : Array Value → State → List Frame → State → Prop} {A : hP} {pc : Nat} {ls : List (Option Value)} {st : List Value} {β : Type} {res : β} (N : Nat) {i : Nat} {r : Option Nat} {a0 : Int32} {a1 : Int32} {f : Int32 × hP → Option β} (hd : decode M.2.1 pc = .ok (.invokevirtual i, 3)) (hT : ∀ w ∈ gT, w ∈ M.2.2.2.2) (hlk : Cond.methodLink M.1.cls i (⟨RX7, "heavyWith", "(II)I"⟩ : MethodName) ∈ gT) (hfr : 1 ≤ R.frames) (hlo : 23 ≤ R.locals) (hst : st.length ≤ 4) (h : (v_X7_heavyWith N A r a0 a1).bind f = some res) (k : ∀ q, f q = some res → AW l M R G Qf q.2 0 0 (pc + 3) ls (.int q.1 :: st)) : AW l M R G Qf A 0 0 pc ls (.int a1 :: .int a0 :: va_rf r :: st) := by
  obtain ⟨q, h1, h2⟩ := bd h
  unfold v_X7_heavyWith at h1
  obtain ⟨c, h3, h4⟩ := bd h1
  by_cases hc : c = 1
  · subst hc
    rw [if_pos rfl] at h4
    refine AW_callUi (y := yX1_heavyWith) (cc := cX1_heavyWith) (n := 4) (d := 0) (mc := 0) (ms := 0) (np := 2) (ret := (some .int)) (As := [.int a0, .int a1]) (st := st) (ci := 1) (x := (⟨RX7, "heavyWith", "(II)I"⟩ : MethodName)) (F := f_X1_heavyWith N A r a0 a1) (f := f) hd hT rfl hlk tSam_X7_X7_heavyWith (fun U h _ => by obtain ⟨a, ha⟩ := h; exact va_Decl.of (ha _ tI_X7_heavyWith) (ha _ tY_X7_heavyWith)) tI_X1_heavyWith tSel_X1_X7_X1_heavyWith tIni_X1 tY_X1_heavyWith (by decide +kernel) ⟨by omega, by omega⟩ ⟨Nat.zero_le _, Nat.zero_le _⟩ hst rfl ?_ (fun q hq => c_X1_heavyWith N _ _ _ _ q hq) (fun q _ h => k q h)
    rw [show oCk A r 1 = some () from if_pos h3]
    show (f_X1_heavyWith N A r a0 a1).bind f = some res
    rw [h4]; exact h2
  rw [if_neg hc] at h4
  by_cases hc : c = 4
  · subst hc
    rw [if_pos rfl] at h4
    refine AW_callUi (y := yX7_heavyWith) (cc := cX7_heavyWith) (n := 3) (d := 0) (mc := 0) (ms := 0) (np := 2) (ret := (some .int)) (As := [.int a0, .int a1]) (st := st) (ci := 4) (x := (⟨RX7, "heavyWith", "(II)I"⟩ : MethodName)) (F := f_X7_heavyWith N A r a0 a1) (f := f) hd hT rfl hlk tSam_X7_X7_heavyWith (fun U h _ => by obtain ⟨a, ha⟩ := h; exact va_Decl.of (ha _ tI_X7_heavyWith) (ha _ tY_X7_heavyWith)) tI_X7_heavyWith tSel_X4_X7_X7_heavyWith tIni_X7 tY_X7_heavyWith (by decide +kernel) ⟨by omega, by omega⟩ ⟨Nat.zero_le _, Nat.zero_le _⟩ hst rfl ?_ (fun q hq => c_X7_heavyWith N _ _ _ _ q hq) (fun q _ h => k q h)
    rw [show oCk A r 4 = some () from if_pos h3]
    show (f_X7_heavyWith N A r a0 a1).bind f = some res
    rw [h4]; exact h2
  rw [if_neg hc] at h4
  by_cases hc : c = 5
  · subst hc
    rw [if_pos rfl] at h4
    refine AW_callUi (y := yX7_heavyWith) (cc := cX7_heavyWith) (n := 3) (d := 0) (mc := 0) (ms := 0) (np := 2) (ret := (some .int)) (As := [.int a0, .int a1]) (st := st) (ci := 5) (x := (⟨RX7, "heavyWith", "(II)I"⟩ : MethodName)) (F := f_X7_heavyWith N A r a0 a1) (f := f) hd hT rfl hlk tSam_X7_X7_heavyWith (fun U h _ => by obtain ⟨a, ha⟩ := h; exact va_Decl.of (ha _ tI_X7_heavyWith) (ha _ tY_X7_heavyWith)) tI_X7_heavyWith tSel_X5_X7_X7_heavyWith tIni_X7 tY_X7_heavyWith (by decide +kernel) ⟨by omega, by omega⟩ ⟨Nat.zero_le _, Nat.zero_le _⟩ hst rfl ?_ (fun q hq => c_X7_heavyWith N _ _ _ _ q hq) (fun q _ h => k q h)
    rw [show oCk A r 5 = some () from if_pos h3]
    show (f_X7_heavyWith N A r a0 a1).bind f = some res
    rw [h4]; exact h2
  rw [if_neg hc] at h4
  by_cases hc : c = 7
  · subst hc
    rw [if_pos rfl] at h4
    refine AW_callUi (y := yX8_heavyWith) (cc := cX8_heavyWith) (n := 3) (d := 0) (mc := 0) (ms := 0) (np := 2) (ret := (some .int)) (As := [.int a0, .int a1]) (st := st) (ci := 7) (x := (⟨RX7, "heavyWith", "(II)I"⟩ : MethodName)) (F := f_X8_heavyWith N A r a0 a1) (f := f) hd hT rfl hlk tSam_X7_X7_heavyWith (fun U h _ => by obtain ⟨a, ha⟩ := h; exact va_Decl.of (ha _ tI_X7_heavyWith) (ha _ tY_X7_heavyWith)) tI_X8_heavyWith tSel_X8_X7_X8_heavyWith tIni_X8 tY_X8_heavyWith (by decide +kernel) ⟨by omega, by omega⟩ ⟨Nat.zero_le _, Nat.zero_le _⟩ hst rfl ?_ (fun q hq => c_X8_heavyWith N _ _ _ _ q hq) (fun q _ h => k q h)
    rw [show oCk A r 7 = some () from if_pos h3]
    show (f_X8_heavyWith N A r a0 a1).bind f = some res
    rw [h4]; exact h2
  rw [if_neg hc] at h4
  by_cases hc : c = 8
  · subst hc
    rw [if_pos rfl] at h4
    refine AW_callUi (y := yX9_heavyWith) (cc := cX9_heavyWith) (n := 3) (d := 0) (mc := 0) (ms := 0) (np := 2) (ret := (some .int)) (As := [.int a0, .int a1]) (st := st) (ci := 8) (x := (⟨RX7, "heavyWith", "(II)I"⟩ : MethodName)) (F := f_X9_heavyWith N A r a0 a1) (f := f) hd hT rfl hlk tSam_X7_X7_heavyWith (fun U h _ => by obtain ⟨a, ha⟩ := h; exact va_Decl.of (ha _ tI_X7_heavyWith) (ha _ tY_X7_heavyWith)) tI_X9_heavyWith tSel_X9_X7_X9_heavyWith tIni_X9 tY_X9_heavyWith (by decide +kernel) ⟨by omega, by omega⟩ ⟨Nat.zero_le _, Nat.zero_le _⟩ hst rfl ?_ (fun q hq => c_X9_heavyWith N _ _ _ _ q hq) (fun q _ h => k q h)
    rw [show oCk A r 8 = some () from if_pos h3]
    show (f_X9_heavyWith N A r a0 a1).bind f = some res
    rw [h4]; exact h2
  rw [if_neg hc] at h4
  cases h4
abbrev mX7_sizeBy : gM := gMk yX7_sizeBy cX7_sizeBy 3 (some .int)
def f_X7_sizeBy_0 (N : Nat) (A : hP) (x0 : Option Nat) (x1 : Option Nat) : Option (Int32 × hP) := (oCk A x1 0).bind fun _ => (f_X0_enter N A x1 (10 : Int32)).bind fun q1 => (oT q1.2 x0 1).bind fun v2 => some (v2, q1.2)
set_option maxRecDepth 20000 in
set_option maxHeartbeats 4000000 in
theorem t_X7_sizeBy_0 {l : Launch} {G : gS} (N : Nat) (A : hP) (x0 : Option Nat) (x1 : Option Nat) (res : Int32 × hP) (h : f_X7_sizeBy_0 N A x0 x1 = some res) : AW l mX7_sizeBy (g_rm 1 0 0) G (g_Qf G (gi res) 0 0) A 0 0 0 [some (va_rf x0), some (va_rf x1), none] [] := by
  unfold f_X7_sizeBy_0 at h
  refine AW_aload_n dX7_sizeBy_0 rfl ?_
  refine AW_bipush (v := 10) dX7_sizeBy_1 (by decide) ?_
  refine AW_callVu (y := yX0_enter) (cc := cX0_enter) (n := 2) (d := 0) (mc := 0) (ms := 0) (np := 1) (ret := none) (As := [.int (10 : Int32)]) (st := []) (ci := 0) dX7_sizeBy_3 gT_s rfl tM_X7_16 tI_X0_enter tSel_X0_X0_X0_enter tIni_X0 tY_X0_enter (by decide +kernel) ⟨by decide, by decide⟩ ⟨by decide, by decide⟩ (Nat.le_of_ble_eq_true rfl) rfl h (fun q hq => c_X0_enter N _ _ _ q hq) (fun q1 _ h => ?_)
  refine AW_aload_n dX7_sizeBy_6 rfl ?_
  refine AW_getT (nm := "weight") (by decide) gT_s dX7_sizeBy_7 (List.mem_cons_of_mem _ tF_X7_13) h (fun v2 _ h => ?_)
  exact AW_iret dX7_sizeBy_10 rfl ⟨Nat.zero_le _, Nat.zero_le _⟩ h
def f_X7_sizeBy (N : Nat) (A : hP) (x0 : Option Nat) (x1 : Option Nat) (x2 : Int32) : Option (Int32 × hP) := f_X7_sizeBy_0 N A x0 x1
set_option maxRecDepth 20000 in
theorem c_X7_sizeBy {l : Launch} (N : Nat) (A : hP) (x0 : Option Nat) (x1 : Option Nat) (x2 : Int32) (res : Int32 × hP) (h : f_X7_sizeBy N A x0 x1 x2 = some res) : Ct l mX7_sizeBy 1 0 0 A [va_rf x0, va_rf x1, .int x2] (gi res) := Ct.of (lv := [(0, va_rf x0), (1, va_rf x1), (2, .int x2)]) (ls := [some (va_rf x0), some (va_rf x1), some (.int x2)]) (by decide) (by simp [lv_args, g_cat_rf, cat_i, cat_l]) rfl (by simp [g_cat_rf, cat_i, cat_l]) (fun G => AW_fewer (fw_k (fw_k (fw_d fw_n))) (t_X7_sizeBy_0 N A x0 x1 res h))
abbrev mX7_markBy : gM := gMk yX7_markBy cX7_markBy 3 (some .int)
def f_X7_markBy_0 (N : Nat) (A : hP) (x0 : Option Nat) (x1 : Option Nat) : Option (Int32 × hP) := (oCk A x1 0).bind fun _ => (f_X0_enter N A x1 (20 : Int32)).bind fun q1 => (oT q1.2 x0 0).bind fun v2 => some (v2, q1.2)
set_option maxRecDepth 20000 in
set_option maxHeartbeats 4000000 in
theorem t_X7_markBy_0 {l : Launch} {G : gS} (N : Nat) (A : hP) (x0 : Option Nat) (x1 : Option Nat) (res : Int32 × hP) (h : f_X7_markBy_0 N A x0 x1 = some res) : AW l mX7_markBy (g_rm 1 0 0) G (g_Qf G (gi res) 0 0) A 0 0 0 [some (va_rf x0), some (va_rf x1), none] [] := by
  unfold f_X7_markBy_0 at h
  refine AW_aload_n dX7_markBy_0 rfl ?_
  refine AW_bipush (v := 20) dX7_markBy_1 (by decide) ?_
  refine AW_callVu (y := yX0_enter) (cc := cX0_enter) (n := 2) (d := 0) (mc := 0) (ms := 0) (np := 1) (ret := none) (As := [.int (20 : Int32)]) (st := []) (ci := 0) dX7_markBy_3 gT_s rfl tM_X7_16 tI_X0_enter tSel_X0_X0_X0_enter tIni_X0 tY_X0_enter (by decide +kernel) ⟨by decide, by decide⟩ ⟨by decide, by decide⟩ (Nat.le_of_ble_eq_true rfl) rfl h (fun q hq => c_X0_enter N _ _ _ q hq) (fun q1 _ h => ?_)
  refine AW_aload_n dX7_markBy_6 rfl ?_
  refine AW_getT (nm := "number") (by decide) gT_s dX7_markBy_7 (List.mem_cons_of_mem _ tF_X7_7) h (fun v2 _ h => ?_)
  exact AW_iret dX7_markBy_10 rfl ⟨Nat.zero_le _, Nat.zero_le _⟩ h
def f_X7_markBy (N : Nat) (A : hP) (x0 : Option Nat) (x1 : Option Nat) (x2 : Int32) : Option (Int32 × hP) := f_X7_markBy_0 N A x0 x1
set_option maxRecDepth 20000 in
theorem c_X7_markBy {l : Launch} (N : Nat) (A : hP) (x0 : Option Nat) (x1 : Option Nat) (x2 : Int32) (res : Int32 × hP) (h : f_X7_markBy N A x0 x1 x2 = some res) : Ct l mX7_markBy 1 0 0 A [va_rf x0, va_rf x1, .int x2] (gi res) := Ct.of (lv := [(0, va_rf x0), (1, va_rf x1), (2, .int x2)]) (ls := [some (va_rf x0), some (va_rf x1), some (.int x2)]) (by decide) (by simp [lv_args, g_cat_rf, cat_i, cat_l]) rfl (by simp [g_cat_rf, cat_i, cat_l]) (fun G => AW_fewer (fw_k (fw_k (fw_d fw_n))) (t_X7_markBy_0 N A x0 x1 res h))
abbrev mX4_markBy : gM := gMk yX4_markBy cX4_markBy 3 (some .int)
def f_X4_markBy_0 (N : Nat) (A : hP) (x0 : Option Nat) (x1 : Option Nat) (x2 : Int32) : Option (Int32 × hP) := (oCk A x1 0).bind fun _ => (f_X0_enter N A x1 (21 : Int32)).bind fun q1 => (oTh q1.2 x0).bind fun _ => (f_X7_markBy N q1.2 x0 x1 x2).bind fun q2 => (oI q2.2 x1 0 1).bind fun v3 => some (q2.1 + v3, q2.2)
set_option maxRecDepth 20000 in
set_option maxHeartbeats 4000000 in
theorem t_X4_markBy_0 {l : Launch} {G : gS} (N : Nat) (A : hP) (x0 : Option Nat) (x1 : Option Nat) (x2 : Int32) (res : Int32 × hP) (h : f_X4_markBy_0 N A x0 x1 x2 = some res) : AW l mX4_markBy (g_rm 2 0 0) G (g_Qf G (gi res) 0 0) A 0 0 0 [some (va_rf x0), some (va_rf x1), some (.int x2)] [] := by
  unfold f_X4_markBy_0 at h
  refine AW_aload_n dX4_markBy_0 rfl ?_
  refine AW_bipush (v := 21) dX4_markBy_1 (by decide) ?_
  refine AW_callVu (y := yX0_enter) (cc := cX0_enter) (n := 2) (d := 0) (mc := 0) (ms := 0) (np := 1) (ret := none) (As := [.int (21 : Int32)]) (st := []) (ci := 0) dX4_markBy_3 gT_s rfl tM_X4_9 tI_X0_enter tSel_X0_X0_X0_enter tIni_X0 tY_X0_enter (by decide +kernel) ⟨by decide, by decide⟩ ⟨by decide, by decide⟩ (Nat.le_of_ble_eq_true rfl) rfl h (fun q hq => c_X0_enter N _ _ _ q hq) (fun q1 _ h => ?_)
  refine AW_aload_n dX4_markBy_6 rfl ?_
  refine AW_aload_n dX4_markBy_7 rfl ?_
  refine AW_iload_n dX4_markBy_8 rfl ?_
  refine AW_callPi (y := yX7_markBy) (cc := cX7_markBy) (n := 3) (d := 1) (mc := 0) (ms := 0) (np := 2) (ret := (some .int)) (As := [va_rf x1, .int x2]) (st := []) dX4_markBy_9 gT_s tM_X4_22 tSam_X7_X7_markBy tSup_X4 tI_X7_markBy tIni_X7 tY_X7_markBy (by decide +kernel) ⟨by decide, by decide⟩ ⟨by decide, by decide⟩ (Nat.le_of_ble_eq_true rfl) rfl h (fun q hq => c_X7_markBy N _ _ _ _ q hq) (fun q2 _ h => ?_)
  refine AW_aload_n dX4_markBy_12 rfl ?_
  refine AW_getI (ci := 0) (k0 := 1) (C := RX0) (T := TX0) (N := 3) dX4_markBy_13 rfl (gT_u tU_X0) (by decide) (List.mem_cons_of_mem _ tF_X4_23) h (fun v3 _ h => ?_)
  refine AW_iadd dX4_markBy_16 ?_
  exact AW_iret dX4_markBy_17 rfl ⟨Nat.zero_le _, Nat.zero_le _⟩ h
def f_X4_markBy (N : Nat) (A : hP) (x0 : Option Nat) (x1 : Option Nat) (x2 : Int32) : Option (Int32 × hP) := f_X4_markBy_0 N A x0 x1 x2
set_option maxRecDepth 20000 in
theorem c_X4_markBy {l : Launch} (N : Nat) (A : hP) (x0 : Option Nat) (x1 : Option Nat) (x2 : Int32) (res : Int32 × hP) (h : f_X4_markBy N A x0 x1 x2 = some res) : Ct l mX4_markBy 2 0 0 A [va_rf x0, va_rf x1, .int x2] (gi res) := Ct.of (lv := [(0, va_rf x0), (1, va_rf x1), (2, .int x2)]) (ls := [some (va_rf x0), some (va_rf x1), some (.int x2)]) (by decide) (by simp [lv_args, g_cat_rf, cat_i, cat_l]) rfl (by simp [g_cat_rf, cat_i, cat_l]) (fun G => (t_X4_markBy_0 N A x0 x1 x2 res h))
abbrev mX1_markBy : gM := gMk yX1_markBy cX1_markBy 3 (some .int)
def f_X1_markBy_0 (N : Nat) (A : hP) (x0 : Option Nat) (x1 : Option Nat) (x2 : Int32) : Option (Int32 × hP) := (oCk A x1 0).bind fun _ => (f_X0_enter N A x1 (22 : Int32)).bind fun q1 => (oTh q1.2 x0).bind fun _ => (f_X4_markBy N q1.2 x0 x1 x2).bind fun q2 => some (q2.1 - (1000 : Int32), q2.2)
set_option maxRecDepth 20000 in
set_option maxHeartbeats 4000000 in
theorem t_X1_markBy_0 {l : Launch} {G : gS} (N : Nat) (A : hP) (x0 : Option Nat) (x1 : Option Nat) (x2 : Int32) (res : Int32 × hP) (h : f_X1_markBy_0 N A x0 x1 x2 = some res) : AW l mX1_markBy (g_rm 3 0 0) G (g_Qf G (gi res) 0 0) A 0 0 0 [some (va_rf x0), some (va_rf x1), some (.int x2)] [] := by
  unfold f_X1_markBy_0 at h
  refine AW_aload_n dX1_markBy_0 rfl ?_
  refine AW_bipush (v := 22) dX1_markBy_1 (by decide) ?_
  refine AW_callVu (y := yX0_enter) (cc := cX0_enter) (n := 2) (d := 0) (mc := 0) (ms := 0) (np := 1) (ret := none) (As := [.int (22 : Int32)]) (st := []) (ci := 0) dX1_markBy_3 gT_s rfl tM_X1_9 tI_X0_enter tSel_X0_X0_X0_enter tIni_X0 tY_X0_enter (by decide +kernel) ⟨by decide, by decide⟩ ⟨by decide, by decide⟩ (Nat.le_of_ble_eq_true rfl) rfl h (fun q hq => c_X0_enter N _ _ _ q hq) (fun q1 _ h => ?_)
  refine AW_aload_n dX1_markBy_6 rfl ?_
  refine AW_aload_n dX1_markBy_7 rfl ?_
  refine AW_iload_n dX1_markBy_8 rfl ?_
  refine AW_callPi (y := yX4_markBy) (cc := cX4_markBy) (n := 3) (d := 2) (mc := 0) (ms := 0) (np := 2) (ret := (some .int)) (As := [va_rf x1, .int x2]) (st := []) dX1_markBy_9 gT_s tM_X1_15 tSam_X4_X4_markBy tSup_X1 tI_X4_markBy tIni_X4 tY_X4_markBy (by decide +kernel) ⟨by decide, by decide⟩ ⟨by decide, by decide⟩ (Nat.le_of_ble_eq_true rfl) rfl h (fun q hq => c_X4_markBy N _ _ _ _ q hq) (fun q2 _ h => ?_)
  refine AW_sipush (v := 1000) dX1_markBy_12 (by decide) ?_
  refine AW_isub dX1_markBy_15 ?_
  exact AW_iret dX1_markBy_16 rfl ⟨Nat.zero_le _, Nat.zero_le _⟩ h
def f_X1_markBy (N : Nat) (A : hP) (x0 : Option Nat) (x1 : Option Nat) (x2 : Int32) : Option (Int32 × hP) := f_X1_markBy_0 N A x0 x1 x2
set_option maxRecDepth 20000 in
theorem c_X1_markBy {l : Launch} (N : Nat) (A : hP) (x0 : Option Nat) (x1 : Option Nat) (x2 : Int32) (res : Int32 × hP) (h : f_X1_markBy N A x0 x1 x2 = some res) : Ct l mX1_markBy 3 0 0 A [va_rf x0, va_rf x1, .int x2] (gi res) := Ct.of (lv := [(0, va_rf x0), (1, va_rf x1), (2, .int x2)]) (ls := [some (va_rf x0), some (va_rf x1), some (.int x2)]) (by decide) (by simp [lv_args, g_cat_rf, cat_i, cat_l]) rfl (by simp [g_cat_rf, cat_i, cat_l]) (fun G => (t_X1_markBy_0 N A x0 x1 x2 res h))
abbrev mX9_markBy : gM := gMk yX9_markBy cX9_markBy 3 (some .int)
def f_X9_markBy_0 (N : Nat) (A : hP) (x0 : Option Nat) (x1 : Option Nat) (x2 : Int32) : Option (Int32 × hP) := (oCk A x1 0).bind fun _ => (f_X0_enter N A x1 (24 : Int32)).bind fun q1 => (oTh q1.2 x0).bind fun _ => (f_X4_markBy N q1.2 x0 x1 x2).bind fun q2 => some ((2 : Int32) * q2.1, q2.2)
set_option maxRecDepth 20000 in
set_option maxHeartbeats 4000000 in
theorem t_X9_markBy_0 {l : Launch} {G : gS} (N : Nat) (A : hP) (x0 : Option Nat) (x1 : Option Nat) (x2 : Int32) (res : Int32 × hP) (h : f_X9_markBy_0 N A x0 x1 x2 = some res) : AW l mX9_markBy (g_rm 3 0 0) G (g_Qf G (gi res) 0 0) A 0 0 0 [some (va_rf x0), some (va_rf x1), some (.int x2)] [] := by
  unfold f_X9_markBy_0 at h
  refine AW_aload_n dX9_markBy_0 rfl ?_
  refine AW_bipush (v := 24) dX9_markBy_1 (by decide) ?_
  refine AW_callVu (y := yX0_enter) (cc := cX0_enter) (n := 2) (d := 0) (mc := 0) (ms := 0) (np := 1) (ret := none) (As := [.int (24 : Int32)]) (st := []) (ci := 0) dX9_markBy_3 gT_s rfl tM_X9_9 tI_X0_enter tSel_X0_X0_X0_enter tIni_X0 tY_X0_enter (by decide +kernel) ⟨by decide, by decide⟩ ⟨by decide, by decide⟩ (Nat.le_of_ble_eq_true rfl) rfl h (fun q hq => c_X0_enter N _ _ _ q hq) (fun q1 _ h => ?_)
  refine AW_iconst (v := 2) dX9_markBy_6 (by decide) ?_
  refine AW_aload_n dX9_markBy_7 rfl ?_
  refine AW_aload_n dX9_markBy_8 rfl ?_
  refine AW_iload_n dX9_markBy_9 rfl ?_
  refine AW_callPi (y := yX4_markBy) (cc := cX4_markBy) (n := 3) (d := 2) (mc := 0) (ms := 0) (np := 2) (ret := (some .int)) (As := [va_rf x1, .int x2]) (st := [.int (2 : Int32)]) dX9_markBy_10 gT_s tM_X9_19 tSam_X4_X4_markBy tSup_X9 tI_X4_markBy tIni_X4 tY_X4_markBy (by decide +kernel) ⟨by decide, by decide⟩ ⟨by decide, by decide⟩ (Nat.le_of_ble_eq_true rfl) rfl h (fun q hq => c_X4_markBy N _ _ _ _ q hq) (fun q2 _ h => ?_)
  refine AW_imul dX9_markBy_13 ?_
  exact AW_iret dX9_markBy_14 rfl ⟨Nat.zero_le _, Nat.zero_le _⟩ h
def f_X9_markBy (N : Nat) (A : hP) (x0 : Option Nat) (x1 : Option Nat) (x2 : Int32) : Option (Int32 × hP) := f_X9_markBy_0 N A x0 x1 x2
set_option maxRecDepth 20000 in
theorem c_X9_markBy {l : Launch} (N : Nat) (A : hP) (x0 : Option Nat) (x1 : Option Nat) (x2 : Int32) (res : Int32 × hP) (h : f_X9_markBy N A x0 x1 x2 = some res) : Ct l mX9_markBy 3 0 0 A [va_rf x0, va_rf x1, .int x2] (gi res) := Ct.of (lv := [(0, va_rf x0), (1, va_rf x1), (2, .int x2)]) (ls := [some (va_rf x0), some (va_rf x1), some (.int x2)]) (by decide) (by simp [lv_args, g_cat_rf, cat_i, cat_l]) rfl (by simp [g_cat_rf, cat_i, cat_l]) (fun G => (t_X9_markBy_0 N A x0 x1 x2 res h))
def v_X4_markBy (N : Nat) (A : hP) (r : Option Nat) (a0 : Option Nat) (a1 : Int32) : Option (Int32 × hP) := (oC A r).bind fun c => if c = 1 then f_X1_markBy N A r a0 a1 else (if c = 4 then f_X4_markBy N A r a0 a1 else (if c = 8 then f_X9_markBy N A r a0 a1 else none))
set_option maxRecDepth 20000 in
theorem AW_v_X4_markBy {l : Launch} {M : gM} {R : Room} {G : gS} {Qf : Array Value → State → List Frame → State → Prop} {A : hP} {pc : Nat} {ls : List (Option Value)} {st : List Value} {β : Type} {res : β} (N : Nat) {i : Nat} {r : Option Nat} {a0 : Option Nat} {a1 : Int32} {f : Int32 × hP → Option β} (hd : decode M.2.1 pc = .ok (.invokevirtual i, 3)) (hT : ∀ w ∈ gT, w ∈ M.2.2.2.2) (hlk : Cond.methodLink M.1.cls i (⟨RX4, "markBy", "(LYesterdayScale$Asking;I)I"⟩ : MethodName) ∈ gT) (hfr : 4 ≤ R.frames) (hlo : 130 ≤ R.locals) (hst : st.length ≤ 4) (h : (v_X4_markBy N A r a0 a1).bind f = some res) (k : ∀ q, f q = some res → AW l M R G Qf q.2 0 0 (pc + 3) ls (.int q.1 :: st)) : AW l M R G Qf A 0 0 pc ls (.int a1 :: va_rf a0 :: va_rf r :: st) := by
  obtain ⟨q, h1, h2⟩ := bd h
  unfold v_X4_markBy at h1
  obtain ⟨c, h3, h4⟩ := bd h1
  by_cases hc : c = 1
  · subst hc
    rw [if_pos rfl] at h4
    refine AW_callUi (y := yX1_markBy) (cc := cX1_markBy) (n := 3) (d := 3) (mc := 0) (ms := 0) (np := 2) (ret := (some .int)) (As := [va_rf a0, .int a1]) (st := st) (ci := 1) (x := (⟨RX4, "markBy", "(LYesterdayScale$Asking;I)I"⟩ : MethodName)) (F := f_X1_markBy N A r a0 a1) (f := f) hd hT rfl hlk tSam_X4_X4_markBy (fun U h _ => by obtain ⟨a, ha⟩ := h; exact va_Decl.of (ha _ tI_X4_markBy) (ha _ tY_X4_markBy)) tI_X1_markBy tSel_X1_X4_X1_markBy tIni_X1 tY_X1_markBy (by decide +kernel) ⟨by omega, by omega⟩ ⟨Nat.zero_le _, Nat.zero_le _⟩ hst rfl ?_ (fun q hq => c_X1_markBy N _ _ _ _ q hq) (fun q _ h => k q h)
    rw [show oCk A r 1 = some () from if_pos h3]
    show (f_X1_markBy N A r a0 a1).bind f = some res
    rw [h4]; exact h2
  rw [if_neg hc] at h4
  by_cases hc : c = 4
  · subst hc
    rw [if_pos rfl] at h4
    refine AW_callUi (y := yX4_markBy) (cc := cX4_markBy) (n := 3) (d := 2) (mc := 0) (ms := 0) (np := 2) (ret := (some .int)) (As := [va_rf a0, .int a1]) (st := st) (ci := 4) (x := (⟨RX4, "markBy", "(LYesterdayScale$Asking;I)I"⟩ : MethodName)) (F := f_X4_markBy N A r a0 a1) (f := f) hd hT rfl hlk tSam_X4_X4_markBy (fun U h _ => by obtain ⟨a, ha⟩ := h; exact va_Decl.of (ha _ tI_X4_markBy) (ha _ tY_X4_markBy)) tI_X4_markBy tSel_X4_X4_X4_markBy tIni_X4 tY_X4_markBy (by decide +kernel) ⟨by omega, by omega⟩ ⟨Nat.zero_le _, Nat.zero_le _⟩ hst rfl ?_ (fun q hq => c_X4_markBy N _ _ _ _ q hq) (fun q _ h => k q h)
    rw [show oCk A r 4 = some () from if_pos h3]
    show (f_X4_markBy N A r a0 a1).bind f = some res
    rw [h4]; exact h2
  rw [if_neg hc] at h4
  by_cases hc : c = 8
  · subst hc
    rw [if_pos rfl] at h4
    refine AW_callUi (y := yX9_markBy) (cc := cX9_markBy) (n := 3) (d := 3) (mc := 0) (ms := 0) (np := 2) (ret := (some .int)) (As := [va_rf a0, .int a1]) (st := st) (ci := 8) (x := (⟨RX4, "markBy", "(LYesterdayScale$Asking;I)I"⟩ : MethodName)) (F := f_X9_markBy N A r a0 a1) (f := f) hd hT rfl hlk tSam_X4_X4_markBy (fun U h _ => by obtain ⟨a, ha⟩ := h; exact va_Decl.of (ha _ tI_X4_markBy) (ha _ tY_X4_markBy)) tI_X9_markBy tSel_X9_X4_X9_markBy tIni_X9 tY_X9_markBy (by decide +kernel) ⟨by omega, by omega⟩ ⟨Nat.zero_le _, Nat.zero_le _⟩ hst rfl ?_ (fun q hq => c_X9_markBy N _ _ _ _ q hq) (fun q _ h => k q h)
    rw [show oCk A r 8 = some () from if_pos h3]
    show (f_X9_markBy N A r a0 a1).bind f = some res
    rw [h4]; exact h2
  rw [if_neg hc] at h4
  cases h4
abbrev mX4_sizeBy : gM := gMk yX4_sizeBy cX4_sizeBy 4 (some .int)
def f_X4_sizeBy_33 (N : Nat) (A : hP) (s0 : Int32) : Option (Int32 × hP) := some (s0, A)
set_option maxRecDepth 20000 in
set_option maxHeartbeats 4000000 in
theorem t_X4_sizeBy_33 {l : Launch} {G : gS} (N : Nat) (A : hP) (s0 : Int32) (res : Int32 × hP) (h : f_X4_sizeBy_33 N A s0 = some res) : AW l mX4_sizeBy (g_rm 4 0 0) G (g_Qf G (gi res) 0 0) A 0 0 33 [none, none, none, none] [.int s0] := by
  unfold f_X4_sizeBy_33 at h
  exact AW_iret dX4_sizeBy_33 rfl ⟨Nat.zero_le _, Nat.zero_le _⟩ h
def f_X4_sizeBy_0 (N : Nat) (A : hP) (x0 : Option Nat) (x1 : Option Nat) (x2 : Int32) : Option (Int32 × hP) := (oCk A x1 0).bind fun _ => (f_X0_enter N A x1 (11 : Int32)).bind fun q1 => (oTh q1.2 x0).bind fun _ => (f_X7_sizeBy N q1.2 x0 x1 x2).bind fun q2 => if (8 : Int32) ≤ x2 then (f_X4_sizeBy_33 N q2.2 q2.1) else ((v_X4_markBy N q2.2 x0 x1 (x2 + (1 : Int32))).bind fun q3 => f_X4_sizeBy_33 N q3.2 (q2.1 + q3.1))
set_option maxRecDepth 20000 in
set_option maxHeartbeats 4000000 in
theorem t_X4_sizeBy_0 {l : Launch} {G : gS} (N : Nat) (A : hP) (x0 : Option Nat) (x1 : Option Nat) (x2 : Int32) (res : Int32 × hP) (h : f_X4_sizeBy_0 N A x0 x1 x2 = some res) : AW l mX4_sizeBy (g_rm 4 0 0) G (g_Qf G (gi res) 0 0) A 0 0 0 [some (va_rf x0), some (va_rf x1), some (.int x2), none] [] := by
  unfold f_X4_sizeBy_0 at h
  refine AW_aload_n dX4_sizeBy_0 rfl ?_
  refine AW_bipush (v := 11) dX4_sizeBy_1 (by decide) ?_
  refine AW_callVu (y := yX0_enter) (cc := cX0_enter) (n := 2) (d := 0) (mc := 0) (ms := 0) (np := 1) (ret := none) (As := [.int (11 : Int32)]) (st := []) (ci := 0) dX4_sizeBy_3 gT_s rfl tM_X4_9 tI_X0_enter tSel_X0_X0_X0_enter tIni_X0 tY_X0_enter (by decide +kernel) ⟨by decide, by decide⟩ ⟨by decide, by decide⟩ (Nat.le_of_ble_eq_true rfl) rfl h (fun q hq => c_X0_enter N _ _ _ q hq) (fun q1 _ h => ?_)
  refine AW_aload_n dX4_sizeBy_6 rfl ?_
  refine AW_aload_n dX4_sizeBy_7 rfl ?_
  refine AW_iload_n dX4_sizeBy_8 rfl ?_
  refine AW_callPi (y := yX7_sizeBy) (cc := cX7_sizeBy) (n := 3) (d := 1) (mc := 0) (ms := 0) (np := 2) (ret := (some .int)) (As := [va_rf x1, .int x2]) (st := []) dX4_sizeBy_9 gT_s tM_X4_15 tSam_X7_X7_sizeBy tSup_X4 tI_X7_sizeBy tIni_X7 tY_X7_sizeBy (by decide +kernel) ⟨by decide, by decide⟩ ⟨by decide, by decide⟩ (Nat.le_of_ble_eq_true rfl) rfl h (fun q hq => c_X7_sizeBy N _ _ _ _ q hq) (fun q2 _ h => ?_)
  refine AW_istore_n (ls' := [some (va_rf x0), some (va_rf x1), some (.int x2), some (.int q2.1)]) dX4_sizeBy_12 (c1_i rfl) (by decide) rfl ?_
  refine AW_iload_n dX4_sizeBy_13 rfl ?_
  refine AW_bipush (v := 8) dX4_sizeBy_14 (by decide) ?_
  refine AW_icmp_ge (tgt := 32) dX4_sizeBy_16 (by decide) h (fun _ h => ?_) (fun _ h => ?_)
  · refine AW_iload_n dX4_sizeBy_32 rfl ?_
    exact AW_fewer (fw_d (fw_d (fw_d (fw_d fw_n)))) (t_X4_sizeBy_33 N _ _ _ h)
  · refine AW_iload_n dX4_sizeBy_19 rfl ?_
    refine AW_aload_n dX4_sizeBy_20 rfl ?_
    refine AW_aload_n dX4_sizeBy_21 rfl ?_
    refine AW_iload_n dX4_sizeBy_22 rfl ?_
    refine AW_iconst (v := 1) dX4_sizeBy_23 (by decide) ?_
    refine AW_iadd dX4_sizeBy_24 ?_
    refine AW_v_X4_markBy N dX4_sizeBy_25 gT_s tM_X4_19 (by decide) (by decide) (Nat.le_of_ble_eq_true rfl) h (fun q3 h => ?_)
    refine AW_iadd dX4_sizeBy_28 ?_
    refine AW_goto (tgt := 33) dX4_sizeBy_29 (by decide) ?_
    exact AW_fewer (fw_d (fw_d (fw_d (fw_d fw_n)))) (t_X4_sizeBy_33 N _ _ _ h)
def f_X4_sizeBy (N : Nat) (A : hP) (x0 : Option Nat) (x1 : Option Nat) (x2 : Int32) : Option (Int32 × hP) := f_X4_sizeBy_0 N A x0 x1 x2
set_option maxRecDepth 20000 in
theorem c_X4_sizeBy {l : Launch} (N : Nat) (A : hP) (x0 : Option Nat) (x1 : Option Nat) (x2 : Int32) (res : Int32 × hP) (h : f_X4_sizeBy N A x0 x1 x2 = some res) : Ct l mX4_sizeBy 4 0 0 A [va_rf x0, va_rf x1, .int x2] (gi res) := Ct.of (lv := [(0, va_rf x0), (1, va_rf x1), (2, .int x2)]) (ls := [some (va_rf x0), some (va_rf x1), some (.int x2), none]) (by decide) (by simp [lv_args, g_cat_rf, cat_i, cat_l]) rfl (by simp [g_cat_rf, cat_i, cat_l]) (fun G => (t_X4_sizeBy_0 N A x0 x1 x2 res h))
abbrev mX9_sizeBy : gM := gMk yX9_sizeBy cX9_sizeBy 3 (some .int)
def f_X9_sizeBy_0 (N : Nat) (A : hP) (x0 : Option Nat) (x1 : Option Nat) (x2 : Int32) : Option (Int32 × hP) := (oCk A x1 0).bind fun _ => (f_X0_enter N A x1 (12 : Int32)).bind fun q1 => (oTh q1.2 x0).bind fun _ => (f_X4_sizeBy N q1.2 x0 x1 x2).bind fun q2 => some (-q2.1, q2.2)
set_option maxRecDepth 20000 in
set_option maxHeartbeats 4000000 in
theorem t_X9_sizeBy_0 {l : Launch} {G : gS} (N : Nat) (A : hP) (x0 : Option Nat) (x1 : Option Nat) (x2 : Int32) (res : Int32 × hP) (h : f_X9_sizeBy_0 N A x0 x1 x2 = some res) : AW l mX9_sizeBy (g_rm 5 0 0) G (g_Qf G (gi res) 0 0) A 0 0 0 [some (va_rf x0), some (va_rf x1), some (.int x2)] [] := by
  unfold f_X9_sizeBy_0 at h
  refine AW_aload_n dX9_sizeBy_0 rfl ?_
  refine AW_bipush (v := 12) dX9_sizeBy_1 (by decide) ?_
  refine AW_callVu (y := yX0_enter) (cc := cX0_enter) (n := 2) (d := 0) (mc := 0) (ms := 0) (np := 1) (ret := none) (As := [.int (12 : Int32)]) (st := []) (ci := 0) dX9_sizeBy_3 gT_s rfl tM_X9_9 tI_X0_enter tSel_X0_X0_X0_enter tIni_X0 tY_X0_enter (by decide +kernel) ⟨by decide, by decide⟩ ⟨by decide, by decide⟩ (Nat.le_of_ble_eq_true rfl) rfl h (fun q hq => c_X0_enter N _ _ _ q hq) (fun q1 _ h => ?_)
  refine AW_aload_n dX9_sizeBy_6 rfl ?_
  refine AW_aload_n dX9_sizeBy_7 rfl ?_
  refine AW_iload_n dX9_sizeBy_8 rfl ?_
  refine AW_callPi (y := yX4_sizeBy) (cc := cX4_sizeBy) (n := 4) (d := 4) (mc := 0) (ms := 0) (np := 2) (ret := (some .int)) (As := [va_rf x1, .int x2]) (st := []) dX9_sizeBy_9 gT_s tM_X9_15 tSam_X4_X4_sizeBy tSup_X9 tI_X4_sizeBy tIni_X4 tY_X4_sizeBy (by decide +kernel) ⟨by decide, by decide⟩ ⟨by decide, by decide⟩ (Nat.le_of_ble_eq_true rfl) rfl h (fun q hq => c_X4_sizeBy N _ _ _ _ q hq) (fun q2 _ h => ?_)
  refine AW_ineg dX9_sizeBy_12 ?_
  exact AW_iret dX9_sizeBy_13 rfl ⟨Nat.zero_le _, Nat.zero_le _⟩ h
def f_X9_sizeBy (N : Nat) (A : hP) (x0 : Option Nat) (x1 : Option Nat) (x2 : Int32) : Option (Int32 × hP) := f_X9_sizeBy_0 N A x0 x1 x2
set_option maxRecDepth 20000 in
theorem c_X9_sizeBy {l : Launch} (N : Nat) (A : hP) (x0 : Option Nat) (x1 : Option Nat) (x2 : Int32) (res : Int32 × hP) (h : f_X9_sizeBy N A x0 x1 x2 = some res) : Ct l mX9_sizeBy 5 0 0 A [va_rf x0, va_rf x1, .int x2] (gi res) := Ct.of (lv := [(0, va_rf x0), (1, va_rf x1), (2, .int x2)]) (ls := [some (va_rf x0), some (va_rf x1), some (.int x2)]) (by decide) (by simp [lv_args, g_cat_rf, cat_i, cat_l]) rfl (by simp [g_cat_rf, cat_i, cat_l]) (fun G => (t_X9_sizeBy_0 N A x0 x1 x2 res h))
abbrev mX5_sizeBy : gM := gMk yX5_sizeBy cX5_sizeBy 3 (some .int)
def f_X5_sizeBy_0 (N : Nat) (A : hP) (x0 : Option Nat) (x1 : Option Nat) (x2 : Int32) : Option (Int32 × hP) := (oCk A x1 0).bind fun _ => (f_X0_enter N A x1 (13 : Int32)).bind fun q1 => (oTh q1.2 x0).bind fun _ => (f_X7_sizeBy N q1.2 x0 x1 x2).bind fun q2 => some (q2.1 - (100 : Int32), q2.2)
set_option maxRecDepth 20000 in
set_option maxHeartbeats 4000000 in
theorem t_X5_sizeBy_0 {l : Launch} {G : gS} (N : Nat) (A : hP) (x0 : Option Nat) (x1 : Option Nat) (x2 : Int32) (res : Int32 × hP) (h : f_X5_sizeBy_0 N A x0 x1 x2 = some res) : AW l mX5_sizeBy (g_rm 2 0 0) G (g_Qf G (gi res) 0 0) A 0 0 0 [some (va_rf x0), some (va_rf x1), some (.int x2)] [] := by
  unfold f_X5_sizeBy_0 at h
  refine AW_aload_n dX5_sizeBy_0 rfl ?_
  refine AW_bipush (v := 13) dX5_sizeBy_1 (by decide) ?_
  refine AW_callVu (y := yX0_enter) (cc := cX0_enter) (n := 2) (d := 0) (mc := 0) (ms := 0) (np := 1) (ret := none) (As := [.int (13 : Int32)]) (st := []) (ci := 0) dX5_sizeBy_3 gT_s rfl tM_X5_9 tI_X0_enter tSel_X0_X0_X0_enter tIni_X0 tY_X0_enter (by decide +kernel) ⟨by decide, by decide⟩ ⟨by decide, by decide⟩ (Nat.le_of_ble_eq_true rfl) rfl h (fun q hq => c_X0_enter N _ _ _ q hq) (fun q1 _ h => ?_)
  refine AW_aload_n dX5_sizeBy_6 rfl ?_
  refine AW_aload_n dX5_sizeBy_7 rfl ?_
  refine AW_iload_n dX5_sizeBy_8 rfl ?_
  refine AW_callPi (y := yX7_sizeBy) (cc := cX7_sizeBy) (n := 3) (d := 1) (mc := 0) (ms := 0) (np := 2) (ret := (some .int)) (As := [va_rf x1, .int x2]) (st := []) dX5_sizeBy_9 gT_s tM_X5_15 tSam_X7_X7_sizeBy tSup_X5 tI_X7_sizeBy tIni_X7 tY_X7_sizeBy (by decide +kernel) ⟨by decide, by decide⟩ ⟨by decide, by decide⟩ (Nat.le_of_ble_eq_true rfl) rfl h (fun q hq => c_X7_sizeBy N _ _ _ _ q hq) (fun q2 _ h => ?_)
  refine AW_bipush (v := 100) dX5_sizeBy_12 (by decide) ?_
  refine AW_isub dX5_sizeBy_14 ?_
  exact AW_iret dX5_sizeBy_15 rfl ⟨Nat.zero_le _, Nat.zero_le _⟩ h
def f_X5_sizeBy (N : Nat) (A : hP) (x0 : Option Nat) (x1 : Option Nat) (x2 : Int32) : Option (Int32 × hP) := f_X5_sizeBy_0 N A x0 x1 x2
set_option maxRecDepth 20000 in
theorem c_X5_sizeBy {l : Launch} (N : Nat) (A : hP) (x0 : Option Nat) (x1 : Option Nat) (x2 : Int32) (res : Int32 × hP) (h : f_X5_sizeBy N A x0 x1 x2 = some res) : Ct l mX5_sizeBy 2 0 0 A [va_rf x0, va_rf x1, .int x2] (gi res) := Ct.of (lv := [(0, va_rf x0), (1, va_rf x1), (2, .int x2)]) (ls := [some (va_rf x0), some (va_rf x1), some (.int x2)]) (by decide) (by simp [lv_args, g_cat_rf, cat_i, cat_l]) rfl (by simp [g_cat_rf, cat_i, cat_l]) (fun G => (t_X5_sizeBy_0 N A x0 x1 x2 res h))
abbrev mX8_sizeBy : gM := gMk yX8_sizeBy cX8_sizeBy 3 (some .int)
def f_X8_sizeBy_0 (N : Nat) (A : hP) (x0 : Option Nat) (x1 : Option Nat) (x2 : Int32) : Option (Int32 × hP) := (oCk A x1 0).bind fun _ => (f_X0_enter N A x1 (14 : Int32)).bind fun q1 => (oTh q1.2 x0).bind fun _ => (f_X5_sizeBy N q1.2 x0 x1 x2).bind fun q2 => some ((2 : Int32) * q2.1, q2.2)
set_option maxRecDepth 20000 in
set_option maxHeartbeats 4000000 in
theorem t_X8_sizeBy_0 {l : Launch} {G : gS} (N : Nat) (A : hP) (x0 : Option Nat) (x1 : Option Nat) (x2 : Int32) (res : Int32 × hP) (h : f_X8_sizeBy_0 N A x0 x1 x2 = some res) : AW l mX8_sizeBy (g_rm 3 0 0) G (g_Qf G (gi res) 0 0) A 0 0 0 [some (va_rf x0), some (va_rf x1), some (.int x2)] [] := by
  unfold f_X8_sizeBy_0 at h
  refine AW_aload_n dX8_sizeBy_0 rfl ?_
  refine AW_bipush (v := 14) dX8_sizeBy_1 (by decide) ?_
  refine AW_callVu (y := yX0_enter) (cc := cX0_enter) (n := 2) (d := 0) (mc := 0) (ms := 0) (np := 1) (ret := none) (As := [.int (14 : Int32)]) (st := []) (ci := 0) dX8_sizeBy_3 gT_s rfl tM_X8_9 tI_X0_enter tSel_X0_X0_X0_enter tIni_X0 tY_X0_enter (by decide +kernel) ⟨by decide, by decide⟩ ⟨by decide, by decide⟩ (Nat.le_of_ble_eq_true rfl) rfl h (fun q hq => c_X0_enter N _ _ _ q hq) (fun q1 _ h => ?_)
  refine AW_iconst (v := 2) dX8_sizeBy_6 (by decide) ?_
  refine AW_aload_n dX8_sizeBy_7 rfl ?_
  refine AW_aload_n dX8_sizeBy_8 rfl ?_
  refine AW_iload_n dX8_sizeBy_9 rfl ?_
  refine AW_callPi (y := yX5_sizeBy) (cc := cX5_sizeBy) (n := 3) (d := 2) (mc := 0) (ms := 0) (np := 2) (ret := (some .int)) (As := [va_rf x1, .int x2]) (st := [.int (2 : Int32)]) dX8_sizeBy_10 gT_s tM_X8_15 tSam_X5_X5_sizeBy tSup_X8 tI_X5_sizeBy tIni_X5 tY_X5_sizeBy (by decide +kernel) ⟨by decide, by decide⟩ ⟨by decide, by decide⟩ (Nat.le_of_ble_eq_true rfl) rfl h (fun q hq => c_X5_sizeBy N _ _ _ _ q hq) (fun q2 _ h => ?_)
  refine AW_imul dX8_sizeBy_13 ?_
  exact AW_iret dX8_sizeBy_14 rfl ⟨Nat.zero_le _, Nat.zero_le _⟩ h
def f_X8_sizeBy (N : Nat) (A : hP) (x0 : Option Nat) (x1 : Option Nat) (x2 : Int32) : Option (Int32 × hP) := f_X8_sizeBy_0 N A x0 x1 x2
set_option maxRecDepth 20000 in
theorem c_X8_sizeBy {l : Launch} (N : Nat) (A : hP) (x0 : Option Nat) (x1 : Option Nat) (x2 : Int32) (res : Int32 × hP) (h : f_X8_sizeBy N A x0 x1 x2 = some res) : Ct l mX8_sizeBy 3 0 0 A [va_rf x0, va_rf x1, .int x2] (gi res) := Ct.of (lv := [(0, va_rf x0), (1, va_rf x1), (2, .int x2)]) (ls := [some (va_rf x0), some (va_rf x1), some (.int x2)]) (by decide) (by simp [lv_args, g_cat_rf, cat_i, cat_l]) rfl (by simp [g_cat_rf, cat_i, cat_l]) (fun G => (t_X8_sizeBy_0 N A x0 x1 x2 res h))
def v_X5_sizeBy (N : Nat) (A : hP) (r : Option Nat) (a0 : Option Nat) (a1 : Int32) : Option (Int32 × hP) := (oC A r).bind fun c => if c = 5 then f_X5_sizeBy N A r a0 a1 else (if c = 7 then f_X8_sizeBy N A r a0 a1 else none)
set_option maxRecDepth 20000 in
theorem AW_v_X5_sizeBy {l : Launch} {M : gM} {R : Room} {G : gS} {Qf : Array Value → State → List Frame → State → Prop} {A : hP} {pc : Nat} {ls : List (Option Value)} {st : List Value} {β : Type} {res : β} (N : Nat) {i : Nat} {r : Option Nat} {a0 : Option Nat} {a1 : Int32} {f : Int32 × hP → Option β} (hd : decode M.2.1 pc = .ok (.invokevirtual i, 3)) (hT : ∀ w ∈ gT, w ∈ M.2.2.2.2) (hlk : Cond.methodLink M.1.cls i (⟨RX5, "sizeBy", "(LYesterdayScale$Asking;I)I"⟩ : MethodName) ∈ gT) (hfr : 4 ≤ R.frames) (hlo : 130 ≤ R.locals) (hst : st.length ≤ 4) (h : (v_X5_sizeBy N A r a0 a1).bind f = some res) (k : ∀ q, f q = some res → AW l M R G Qf q.2 0 0 (pc + 3) ls (.int q.1 :: st)) : AW l M R G Qf A 0 0 pc ls (.int a1 :: va_rf a0 :: va_rf r :: st) := by
  obtain ⟨q, h1, h2⟩ := bd h
  unfold v_X5_sizeBy at h1
  obtain ⟨c, h3, h4⟩ := bd h1
  by_cases hc : c = 5
  · subst hc
    rw [if_pos rfl] at h4
    refine AW_callUi (y := yX5_sizeBy) (cc := cX5_sizeBy) (n := 3) (d := 2) (mc := 0) (ms := 0) (np := 2) (ret := (some .int)) (As := [va_rf a0, .int a1]) (st := st) (ci := 5) (x := (⟨RX5, "sizeBy", "(LYesterdayScale$Asking;I)I"⟩ : MethodName)) (F := f_X5_sizeBy N A r a0 a1) (f := f) hd hT rfl hlk tSam_X5_X5_sizeBy (fun U h _ => by obtain ⟨a, ha⟩ := h; exact va_Decl.of (ha _ tI_X5_sizeBy) (ha _ tY_X5_sizeBy)) tI_X5_sizeBy tSel_X5_X5_X5_sizeBy tIni_X5 tY_X5_sizeBy (by decide +kernel) ⟨by omega, by omega⟩ ⟨Nat.zero_le _, Nat.zero_le _⟩ hst rfl ?_ (fun q hq => c_X5_sizeBy N _ _ _ _ q hq) (fun q _ h => k q h)
    rw [show oCk A r 5 = some () from if_pos h3]
    show (f_X5_sizeBy N A r a0 a1).bind f = some res
    rw [h4]; exact h2
  rw [if_neg hc] at h4
  by_cases hc : c = 7
  · subst hc
    rw [if_pos rfl] at h4
    refine AW_callUi (y := yX8_sizeBy) (cc := cX8_sizeBy) (n := 3) (d := 3) (mc := 0) (ms := 0) (np := 2) (ret := (some .int)) (As := [va_rf a0, .int a1]) (st := st) (ci := 7) (x := (⟨RX5, "sizeBy", "(LYesterdayScale$Asking;I)I"⟩ : MethodName)) (F := f_X8_sizeBy N A r a0 a1) (f := f) hd hT rfl hlk tSam_X5_X5_sizeBy (fun U h _ => by obtain ⟨a, ha⟩ := h; exact va_Decl.of (ha _ tI_X5_sizeBy) (ha _ tY_X5_sizeBy)) tI_X8_sizeBy tSel_X8_X5_X8_sizeBy tIni_X8 tY_X8_sizeBy (by decide +kernel) ⟨by omega, by omega⟩ ⟨Nat.zero_le _, Nat.zero_le _⟩ hst rfl ?_ (fun q hq => c_X8_sizeBy N _ _ _ _ q hq) (fun q _ h => k q h)
    rw [show oCk A r 7 = some () from if_pos h3]
    show (f_X8_sizeBy N A r a0 a1).bind f = some res
    rw [h4]; exact h2
  rw [if_neg hc] at h4
  cases h4
abbrev mX5_markBy : gM := gMk yX5_markBy cX5_markBy 4 (some .int)
def f_X5_markBy_33 (N : Nat) (A : hP) (s0 : Int32) : Option (Int32 × hP) := some (s0, A)
set_option maxRecDepth 20000 in
set_option maxHeartbeats 4000000 in
theorem t_X5_markBy_33 {l : Launch} {G : gS} (N : Nat) (A : hP) (s0 : Int32) (res : Int32 × hP) (h : f_X5_markBy_33 N A s0 = some res) : AW l mX5_markBy (g_rm 4 0 0) G (g_Qf G (gi res) 0 0) A 0 0 33 [none, none, none, none] [.int s0] := by
  unfold f_X5_markBy_33 at h
  exact AW_iret dX5_markBy_33 rfl ⟨Nat.zero_le _, Nat.zero_le _⟩ h
def f_X5_markBy_0 (N : Nat) (A : hP) (x0 : Option Nat) (x1 : Option Nat) (x2 : Int32) : Option (Int32 × hP) := (oCk A x1 0).bind fun _ => (f_X0_enter N A x1 (23 : Int32)).bind fun q1 => (oTh q1.2 x0).bind fun _ => (f_X7_markBy N q1.2 x0 x1 x2).bind fun q2 => if (8 : Int32) ≤ x2 then (f_X5_markBy_33 N q2.2 q2.1) else ((v_X5_sizeBy N q2.2 x0 x1 (x2 + (1 : Int32))).bind fun q3 => f_X5_markBy_33 N q3.2 (q2.1 - q3.1))
set_option maxRecDepth 20000 in
set_option maxHeartbeats 4000000 in
theorem t_X5_markBy_0 {l : Launch} {G : gS} (N : Nat) (A : hP) (x0 : Option Nat) (x1 : Option Nat) (x2 : Int32) (res : Int32 × hP) (h : f_X5_markBy_0 N A x0 x1 x2 = some res) : AW l mX5_markBy (g_rm 4 0 0) G (g_Qf G (gi res) 0 0) A 0 0 0 [some (va_rf x0), some (va_rf x1), some (.int x2), none] [] := by
  unfold f_X5_markBy_0 at h
  refine AW_aload_n dX5_markBy_0 rfl ?_
  refine AW_bipush (v := 23) dX5_markBy_1 (by decide) ?_
  refine AW_callVu (y := yX0_enter) (cc := cX0_enter) (n := 2) (d := 0) (mc := 0) (ms := 0) (np := 1) (ret := none) (As := [.int (23 : Int32)]) (st := []) (ci := 0) dX5_markBy_3 gT_s rfl tM_X5_9 tI_X0_enter tSel_X0_X0_X0_enter tIni_X0 tY_X0_enter (by decide +kernel) ⟨by decide, by decide⟩ ⟨by decide, by decide⟩ (Nat.le_of_ble_eq_true rfl) rfl h (fun q hq => c_X0_enter N _ _ _ q hq) (fun q1 _ h => ?_)
  refine AW_aload_n dX5_markBy_6 rfl ?_
  refine AW_aload_n dX5_markBy_7 rfl ?_
  refine AW_iload_n dX5_markBy_8 rfl ?_
  refine AW_callPi (y := yX7_markBy) (cc := cX7_markBy) (n := 3) (d := 1) (mc := 0) (ms := 0) (np := 2) (ret := (some .int)) (As := [va_rf x1, .int x2]) (st := []) dX5_markBy_9 gT_s tM_X5_19 tSam_X7_X7_markBy tSup_X5 tI_X7_markBy tIni_X7 tY_X7_markBy (by decide +kernel) ⟨by decide, by decide⟩ ⟨by decide, by decide⟩ (Nat.le_of_ble_eq_true rfl) rfl h (fun q hq => c_X7_markBy N _ _ _ _ q hq) (fun q2 _ h => ?_)
  refine AW_istore_n (ls' := [some (va_rf x0), some (va_rf x1), some (.int x2), some (.int q2.1)]) dX5_markBy_12 (c1_i rfl) (by decide) rfl ?_
  refine AW_iload_n dX5_markBy_13 rfl ?_
  refine AW_bipush (v := 8) dX5_markBy_14 (by decide) ?_
  refine AW_icmp_ge (tgt := 32) dX5_markBy_16 (by decide) h (fun _ h => ?_) (fun _ h => ?_)
  · refine AW_iload_n dX5_markBy_32 rfl ?_
    exact AW_fewer (fw_d (fw_d (fw_d (fw_d fw_n)))) (t_X5_markBy_33 N _ _ _ h)
  · refine AW_iload_n dX5_markBy_19 rfl ?_
    refine AW_aload_n dX5_markBy_20 rfl ?_
    refine AW_aload_n dX5_markBy_21 rfl ?_
    refine AW_iload_n dX5_markBy_22 rfl ?_
    refine AW_iconst (v := 1) dX5_markBy_23 (by decide) ?_
    refine AW_iadd dX5_markBy_24 ?_
    refine AW_v_X5_sizeBy N dX5_markBy_25 gT_s tM_X5_22 (by decide) (by decide) (Nat.le_of_ble_eq_true rfl) h (fun q3 h => ?_)
    refine AW_isub dX5_markBy_28 ?_
    refine AW_goto (tgt := 33) dX5_markBy_29 (by decide) ?_
    exact AW_fewer (fw_d (fw_d (fw_d (fw_d fw_n)))) (t_X5_markBy_33 N _ _ _ h)
def f_X5_markBy (N : Nat) (A : hP) (x0 : Option Nat) (x1 : Option Nat) (x2 : Int32) : Option (Int32 × hP) := f_X5_markBy_0 N A x0 x1 x2
set_option maxRecDepth 20000 in
theorem c_X5_markBy {l : Launch} (N : Nat) (A : hP) (x0 : Option Nat) (x1 : Option Nat) (x2 : Int32) (res : Int32 × hP) (h : f_X5_markBy N A x0 x1 x2 = some res) : Ct l mX5_markBy 4 0 0 A [va_rf x0, va_rf x1, .int x2] (gi res) := Ct.of (lv := [(0, va_rf x0), (1, va_rf x1), (2, .int x2)]) (ls := [some (va_rf x0), some (va_rf x1), some (.int x2), none]) (by decide) (by simp [lv_args, g_cat_rf, cat_i, cat_l]) rfl (by simp [g_cat_rf, cat_i, cat_l]) (fun G => (t_X5_markBy_0 N A x0 x1 x2 res h))
def v_X7_sizeBy (N : Nat) (A : hP) (r : Option Nat) (a0 : Option Nat) (a1 : Int32) : Option (Int32 × hP) := (oC A r).bind fun c => if c = 1 then f_X4_sizeBy N A r a0 a1 else (if c = 4 then f_X4_sizeBy N A r a0 a1 else (if c = 5 then f_X5_sizeBy N A r a0 a1 else (if c = 7 then f_X8_sizeBy N A r a0 a1 else (if c = 8 then f_X9_sizeBy N A r a0 a1 else none))))
set_option maxRecDepth 20000 in
theorem AW_v_X7_sizeBy {l : Launch} {M : gM} {R : Room} {G : gS} {Qf : Array Value → State → List Frame → State → Prop} {A : hP} {pc : Nat} {ls : List (Option Value)} {st : List Value} {β : Type} {res : β} (N : Nat) {i : Nat} {r : Option Nat} {a0 : Option Nat} {a1 : Int32} {f : Int32 × hP → Option β} (hd : decode M.2.1 pc = .ok (.invokevirtual i, 3)) (hT : ∀ w ∈ gT, w ∈ M.2.2.2.2) (hlk : Cond.methodLink M.1.cls i (⟨RX7, "sizeBy", "(LYesterdayScale$Asking;I)I"⟩ : MethodName) ∈ gT) (hfr : 6 ≤ R.frames) (hlo : 202 ≤ R.locals) (hst : st.length ≤ 4) (h : (v_X7_sizeBy N A r a0 a1).bind f = some res) (k : ∀ q, f q = some res → AW l M R G Qf q.2 0 0 (pc + 3) ls (.int q.1 :: st)) : AW l M R G Qf A 0 0 pc ls (.int a1 :: va_rf a0 :: va_rf r :: st) := by
  obtain ⟨q, h1, h2⟩ := bd h
  unfold v_X7_sizeBy at h1
  obtain ⟨c, h3, h4⟩ := bd h1
  by_cases hc : c = 1
  · subst hc
    rw [if_pos rfl] at h4
    refine AW_callUi (y := yX4_sizeBy) (cc := cX4_sizeBy) (n := 4) (d := 4) (mc := 0) (ms := 0) (np := 2) (ret := (some .int)) (As := [va_rf a0, .int a1]) (st := st) (ci := 1) (x := (⟨RX7, "sizeBy", "(LYesterdayScale$Asking;I)I"⟩ : MethodName)) (F := f_X4_sizeBy N A r a0 a1) (f := f) hd hT rfl hlk tSam_X7_X7_sizeBy (fun U h _ => by obtain ⟨a, ha⟩ := h; exact va_Decl.of (ha _ tI_X7_sizeBy) (ha _ tY_X7_sizeBy)) tI_X4_sizeBy tSel_X1_X7_X4_sizeBy tIni_X4 tY_X4_sizeBy (by decide +kernel) ⟨by omega, by omega⟩ ⟨Nat.zero_le _, Nat.zero_le _⟩ hst rfl ?_ (fun q hq => c_X4_sizeBy N _ _ _ _ q hq) (fun q _ h => k q h)
    rw [show oCk A r 1 = some () from if_pos h3]
    show (f_X4_sizeBy N A r a0 a1).bind f = some res
    rw [h4]; exact h2
  rw [if_neg hc] at h4
  by_cases hc : c = 4
  · subst hc
    rw [if_pos rfl] at h4
    refine AW_callUi (y := yX4_sizeBy) (cc := cX4_sizeBy) (n := 4) (d := 4) (mc := 0) (ms := 0) (np := 2) (ret := (some .int)) (As := [va_rf a0, .int a1]) (st := st) (ci := 4) (x := (⟨RX7, "sizeBy", "(LYesterdayScale$Asking;I)I"⟩ : MethodName)) (F := f_X4_sizeBy N A r a0 a1) (f := f) hd hT rfl hlk tSam_X7_X7_sizeBy (fun U h _ => by obtain ⟨a, ha⟩ := h; exact va_Decl.of (ha _ tI_X7_sizeBy) (ha _ tY_X7_sizeBy)) tI_X4_sizeBy tSel_X4_X7_X4_sizeBy tIni_X4 tY_X4_sizeBy (by decide +kernel) ⟨by omega, by omega⟩ ⟨Nat.zero_le _, Nat.zero_le _⟩ hst rfl ?_ (fun q hq => c_X4_sizeBy N _ _ _ _ q hq) (fun q _ h => k q h)
    rw [show oCk A r 4 = some () from if_pos h3]
    show (f_X4_sizeBy N A r a0 a1).bind f = some res
    rw [h4]; exact h2
  rw [if_neg hc] at h4
  by_cases hc : c = 5
  · subst hc
    rw [if_pos rfl] at h4
    refine AW_callUi (y := yX5_sizeBy) (cc := cX5_sizeBy) (n := 3) (d := 2) (mc := 0) (ms := 0) (np := 2) (ret := (some .int)) (As := [va_rf a0, .int a1]) (st := st) (ci := 5) (x := (⟨RX7, "sizeBy", "(LYesterdayScale$Asking;I)I"⟩ : MethodName)) (F := f_X5_sizeBy N A r a0 a1) (f := f) hd hT rfl hlk tSam_X7_X7_sizeBy (fun U h _ => by obtain ⟨a, ha⟩ := h; exact va_Decl.of (ha _ tI_X7_sizeBy) (ha _ tY_X7_sizeBy)) tI_X5_sizeBy tSel_X5_X7_X5_sizeBy tIni_X5 tY_X5_sizeBy (by decide +kernel) ⟨by omega, by omega⟩ ⟨Nat.zero_le _, Nat.zero_le _⟩ hst rfl ?_ (fun q hq => c_X5_sizeBy N _ _ _ _ q hq) (fun q _ h => k q h)
    rw [show oCk A r 5 = some () from if_pos h3]
    show (f_X5_sizeBy N A r a0 a1).bind f = some res
    rw [h4]; exact h2
  rw [if_neg hc] at h4
  by_cases hc : c = 7
  · subst hc
    rw [if_pos rfl] at h4
    refine AW_callUi (y := yX8_sizeBy) (cc := cX8_sizeBy) (n := 3) (d := 3) (mc := 0) (ms := 0) (np := 2) (ret := (some .int)) (As := [va_rf a0, .int a1]) (st := st) (ci := 7) (x := (⟨RX7, "sizeBy", "(LYesterdayScale$Asking;I)I"⟩ : MethodName)) (F := f_X8_sizeBy N A r a0 a1) (f := f) hd hT rfl hlk tSam_X7_X7_sizeBy (fun U h _ => by obtain ⟨a, ha⟩ := h; exact va_Decl.of (ha _ tI_X7_sizeBy) (ha _ tY_X7_sizeBy)) tI_X8_sizeBy tSel_X8_X7_X8_sizeBy tIni_X8 tY_X8_sizeBy (by decide +kernel) ⟨by omega, by omega⟩ ⟨Nat.zero_le _, Nat.zero_le _⟩ hst rfl ?_ (fun q hq => c_X8_sizeBy N _ _ _ _ q hq) (fun q _ h => k q h)
    rw [show oCk A r 7 = some () from if_pos h3]
    show (f_X8_sizeBy N A r a0 a1).bind f = some res
    rw [h4]; exact h2
  rw [if_neg hc] at h4
  by_cases hc : c = 8
  · subst hc
    rw [if_pos rfl] at h4
    refine AW_callUi (y := yX9_sizeBy) (cc := cX9_sizeBy) (n := 3) (d := 5) (mc := 0) (ms := 0) (np := 2) (ret := (some .int)) (As := [va_rf a0, .int a1]) (st := st) (ci := 8) (x := (⟨RX7, "sizeBy", "(LYesterdayScale$Asking;I)I"⟩ : MethodName)) (F := f_X9_sizeBy N A r a0 a1) (f := f) hd hT rfl hlk tSam_X7_X7_sizeBy (fun U h _ => by obtain ⟨a, ha⟩ := h; exact va_Decl.of (ha _ tI_X7_sizeBy) (ha _ tY_X7_sizeBy)) tI_X9_sizeBy tSel_X9_X7_X9_sizeBy tIni_X9 tY_X9_sizeBy (by decide +kernel) ⟨by omega, by omega⟩ ⟨Nat.zero_le _, Nat.zero_le _⟩ hst rfl ?_ (fun q hq => c_X9_sizeBy N _ _ _ _ q hq) (fun q _ h => k q h)
    rw [show oCk A r 8 = some () from if_pos h3]
    show (f_X9_sizeBy N A r a0 a1).bind f = some res
    rw [h4]; exact h2
  rw [if_neg hc] at h4
  cases h4
def v_X7_markBy (N : Nat) (A : hP) (r : Option Nat) (a0 : Option Nat) (a1 : Int32) : Option (Int32 × hP) := (oC A r).bind fun c => if c = 1 then f_X1_markBy N A r a0 a1 else (if c = 4 then f_X4_markBy N A r a0 a1 else (if c = 5 then f_X5_markBy N A r a0 a1 else (if c = 7 then f_X5_markBy N A r a0 a1 else (if c = 8 then f_X9_markBy N A r a0 a1 else none))))
set_option maxRecDepth 20000 in
theorem AW_v_X7_markBy {l : Launch} {M : gM} {R : Room} {G : gS} {Qf : Array Value → State → List Frame → State → Prop} {A : hP} {pc : Nat} {ls : List (Option Value)} {st : List Value} {β : Type} {res : β} (N : Nat) {i : Nat} {r : Option Nat} {a0 : Option Nat} {a1 : Int32} {f : Int32 × hP → Option β} (hd : decode M.2.1 pc = .ok (.invokevirtual i, 3)) (hT : ∀ w ∈ gT, w ∈ M.2.2.2.2) (hlk : Cond.methodLink M.1.cls i (⟨RX7, "markBy", "(LYesterdayScale$Asking;I)I"⟩ : MethodName) ∈ gT) (hfr : 5 ≤ R.frames) (hlo : 167 ≤ R.locals) (hst : st.length ≤ 4) (h : (v_X7_markBy N A r a0 a1).bind f = some res) (k : ∀ q, f q = some res → AW l M R G Qf q.2 0 0 (pc + 3) ls (.int q.1 :: st)) : AW l M R G Qf A 0 0 pc ls (.int a1 :: va_rf a0 :: va_rf r :: st) := by
  obtain ⟨q, h1, h2⟩ := bd h
  unfold v_X7_markBy at h1
  obtain ⟨c, h3, h4⟩ := bd h1
  by_cases hc : c = 1
  · subst hc
    rw [if_pos rfl] at h4
    refine AW_callUi (y := yX1_markBy) (cc := cX1_markBy) (n := 3) (d := 3) (mc := 0) (ms := 0) (np := 2) (ret := (some .int)) (As := [va_rf a0, .int a1]) (st := st) (ci := 1) (x := (⟨RX7, "markBy", "(LYesterdayScale$Asking;I)I"⟩ : MethodName)) (F := f_X1_markBy N A r a0 a1) (f := f) hd hT rfl hlk tSam_X7_X7_markBy (fun U h _ => by obtain ⟨a, ha⟩ := h; exact va_Decl.of (ha _ tI_X7_markBy) (ha _ tY_X7_markBy)) tI_X1_markBy tSel_X1_X7_X1_markBy tIni_X1 tY_X1_markBy (by decide +kernel) ⟨by omega, by omega⟩ ⟨Nat.zero_le _, Nat.zero_le _⟩ hst rfl ?_ (fun q hq => c_X1_markBy N _ _ _ _ q hq) (fun q _ h => k q h)
    rw [show oCk A r 1 = some () from if_pos h3]
    show (f_X1_markBy N A r a0 a1).bind f = some res
    rw [h4]; exact h2
  rw [if_neg hc] at h4
  by_cases hc : c = 4
  · subst hc
    rw [if_pos rfl] at h4
    refine AW_callUi (y := yX4_markBy) (cc := cX4_markBy) (n := 3) (d := 2) (mc := 0) (ms := 0) (np := 2) (ret := (some .int)) (As := [va_rf a0, .int a1]) (st := st) (ci := 4) (x := (⟨RX7, "markBy", "(LYesterdayScale$Asking;I)I"⟩ : MethodName)) (F := f_X4_markBy N A r a0 a1) (f := f) hd hT rfl hlk tSam_X7_X7_markBy (fun U h _ => by obtain ⟨a, ha⟩ := h; exact va_Decl.of (ha _ tI_X7_markBy) (ha _ tY_X7_markBy)) tI_X4_markBy tSel_X4_X7_X4_markBy tIni_X4 tY_X4_markBy (by decide +kernel) ⟨by omega, by omega⟩ ⟨Nat.zero_le _, Nat.zero_le _⟩ hst rfl ?_ (fun q hq => c_X4_markBy N _ _ _ _ q hq) (fun q _ h => k q h)
    rw [show oCk A r 4 = some () from if_pos h3]
    show (f_X4_markBy N A r a0 a1).bind f = some res
    rw [h4]; exact h2
  rw [if_neg hc] at h4
  by_cases hc : c = 5
  · subst hc
    rw [if_pos rfl] at h4
    refine AW_callUi (y := yX5_markBy) (cc := cX5_markBy) (n := 4) (d := 4) (mc := 0) (ms := 0) (np := 2) (ret := (some .int)) (As := [va_rf a0, .int a1]) (st := st) (ci := 5) (x := (⟨RX7, "markBy", "(LYesterdayScale$Asking;I)I"⟩ : MethodName)) (F := f_X5_markBy N A r a0 a1) (f := f) hd hT rfl hlk tSam_X7_X7_markBy (fun U h _ => by obtain ⟨a, ha⟩ := h; exact va_Decl.of (ha _ tI_X7_markBy) (ha _ tY_X7_markBy)) tI_X5_markBy tSel_X5_X7_X5_markBy tIni_X5 tY_X5_markBy (by decide +kernel) ⟨by omega, by omega⟩ ⟨Nat.zero_le _, Nat.zero_le _⟩ hst rfl ?_ (fun q hq => c_X5_markBy N _ _ _ _ q hq) (fun q _ h => k q h)
    rw [show oCk A r 5 = some () from if_pos h3]
    show (f_X5_markBy N A r a0 a1).bind f = some res
    rw [h4]; exact h2
  rw [if_neg hc] at h4
  by_cases hc : c = 7
  · subst hc
    rw [if_pos rfl] at h4
    refine AW_callUi (y := yX5_markBy) (cc := cX5_markBy) (n := 4) (d := 4) (mc := 0) (ms := 0) (np := 2) (ret := (some .int)) (As := [va_rf a0, .int a1]) (st := st) (ci := 7) (x := (⟨RX7, "markBy", "(LYesterdayScale$Asking;I)I"⟩ : MethodName)) (F := f_X5_markBy N A r a0 a1) (f := f) hd hT rfl hlk tSam_X7_X7_markBy (fun U h _ => by obtain ⟨a, ha⟩ := h; exact va_Decl.of (ha _ tI_X7_markBy) (ha _ tY_X7_markBy)) tI_X5_markBy tSel_X8_X7_X5_markBy tIni_X5 tY_X5_markBy (by decide +kernel) ⟨by omega, by omega⟩ ⟨Nat.zero_le _, Nat.zero_le _⟩ hst rfl ?_ (fun q hq => c_X5_markBy N _ _ _ _ q hq) (fun q _ h => k q h)
    rw [show oCk A r 7 = some () from if_pos h3]
    show (f_X5_markBy N A r a0 a1).bind f = some res
    rw [h4]; exact h2
  rw [if_neg hc] at h4
  by_cases hc : c = 8
  · subst hc
    rw [if_pos rfl] at h4
    refine AW_callUi (y := yX9_markBy) (cc := cX9_markBy) (n := 3) (d := 3) (mc := 0) (ms := 0) (np := 2) (ret := (some .int)) (As := [va_rf a0, .int a1]) (st := st) (ci := 8) (x := (⟨RX7, "markBy", "(LYesterdayScale$Asking;I)I"⟩ : MethodName)) (F := f_X9_markBy N A r a0 a1) (f := f) hd hT rfl hlk tSam_X7_X7_markBy (fun U h _ => by obtain ⟨a, ha⟩ := h; exact va_Decl.of (ha _ tI_X7_markBy) (ha _ tY_X7_markBy)) tI_X9_markBy tSel_X9_X7_X9_markBy tIni_X9 tY_X9_markBy (by decide +kernel) ⟨by omega, by omega⟩ ⟨Nat.zero_le _, Nat.zero_le _⟩ hst rfl ?_ (fun q hq => c_X9_markBy N _ _ _ _ q hq) (fun q _ h => k q h)
    rw [show oCk A r 8 = some () from if_pos h3]
    show (f_X9_markBy N A r a0 a1).bind f = some res
    rw [h4]; exact h2
  rw [if_neg hc] at h4
  cases h4
