abbrev mX0_init : gM := gMk yX0_init cX0_init 1 none
def f_X0_init_0 (N : Nat) (A : hP) (cs ss : Nat) (x0 : Option Nat) : Option (Unit × hP) := (oOb A x0).bind fun _ => if cs + 1 ≤ 1 ∧ ss + 16 ≤ 16 then (if A.length < 1000000 then ((oP (A ++ [.inl (0, 16, .inl (fun _ => 0))]) x0 0 2 (va_rf (some A.length))).bind fun A1 => if cs + 1 ≤ 1 ∧ ss + 16 ≤ 16 then (some ((), A1)) else none) else none) else none
set_option maxRecDepth 20000 in
set_option maxHeartbeats 4000000 in
theorem t_X0_init_0 {l : Launch} {G : gS} (N : Nat) (A : hP) (cs ss : Nat) (x0 : Option Nat) (res : Unit × hP) (h : f_X0_init_0 N A cs ss x0 = some res) : AW l mX0_init (g_rm 1 1 16) G (g_Qf G (gu res) 1 16) A cs ss 0 [some (va_rf x0)] [] := by
  unfold f_X0_init_0 at h
  refine AW_aload_n dX0_init_0 rfl ?_
  refine AW_objInit dX0_init_1 gT_s tM_X0_1 tI_obj tY_obj ⟨by decide, by decide⟩ (Nat.le_of_ble_eq_true rfl) h (fun h => ?_)
  refine AW_aload_n dX0_init_4 rfl ?_
  refine AW_bipush (v := 16) dX0_init_5 (by decide) ?_
  refine AW_case h (fun hc h => ?_) (fun _ h => by cases h)
  refine AW_newa (t := 0) (N := 16) (ty := .int) dX0_init_7 (List.mem_cons_of_mem _ tArr_int) rfl (fun _ => rfl) (by simp) (by decide) (by decide) (by decide) hc h (fun h => ?_)
  refine AW_put (ci := 0) (k0 := 2) (C := RX0) (T := TX0) (N := 3) (ty0 := tyX0) dX0_init_9 rfl (gT_u tU_X0) tyX0_ok nmX0 (by decide) (List.mem_cons_of_mem _ tF_X0_9) (Or.inr ⟨rfl, rfl, rfl⟩) rfl rfl h (fun A1 _ h => ?_)
  refine AW_case h (fun hc h => ?_) (fun _ h => by cases h)
  exact AW_vret dX0_init_12 rfl hc h
def f_X0_init (N : Nat) (A : hP) (x0 : Option Nat) : Option (Unit × hP) := f_X0_init_0 N A 0 0 x0
set_option maxRecDepth 20000 in
theorem c_X0_init {l : Launch} (N : Nat) (A : hP) (x0 : Option Nat) (res : Unit × hP) (h : f_X0_init N A x0 = some res) : Ct l mX0_init 1 1 16 A [va_rf x0] (gu res) := Ct.of (lv := [(0, va_rf x0)]) (ls := [some (va_rf x0)]) (by decide) (by simp [lv_args, g_cat_rf, cat_i, cat_l]) rfl (by simp [g_cat_rf, cat_i, cat_l]) (fun G => (t_X0_init_0 N A 0 0 x0 res h))
abbrev mX3_init : gM := gMk yX3_init cX3_init 1 none
def f_X3_init_0 (N : Nat) (A : hP) (cs ss : Nat) (x0 : Option Nat) : Option (Unit × hP) := (oOb A x0).bind fun _ => if cs + 1 ≤ 1 ∧ ss + 40 ≤ 40 then (if A.length < 1000000 then ((oP (A ++ [.inl (0, 40, .inl (fun _ => 0))]) x0 3 3 (va_rf (some A.length))).bind fun A1 => if cs + 1 ≤ 1 ∧ ss + 40 ≤ 40 then (some ((), A1)) else none) else none) else none
set_option maxRecDepth 20000 in
set_option maxHeartbeats 4000000 in
theorem t_X3_init_0 {l : Launch} {G : gS} (N : Nat) (A : hP) (cs ss : Nat) (x0 : Option Nat) (res : Unit × hP) (h : f_X3_init_0 N A cs ss x0 = some res) : AW l mX3_init (g_rm 1 1 40) G (g_Qf G (gu res) 1 40) A cs ss 0 [some (va_rf x0)] [] := by
  unfold f_X3_init_0 at h
  refine AW_aload_n dX3_init_0 rfl ?_
  refine AW_objInit dX3_init_1 gT_s tM_X3_3 tI_obj tY_obj ⟨by decide, by decide⟩ (Nat.le_of_ble_eq_true rfl) h (fun h => ?_)
  refine AW_aload_n dX3_init_4 rfl ?_
  refine AW_bipush (v := 40) dX3_init_5 (by decide) ?_
  refine AW_case h (fun hc h => ?_) (fun _ h => by cases h)
  refine AW_newa (t := 0) (N := 40) (ty := .int) dX3_init_7 (List.mem_cons_of_mem _ tArr_int) rfl (fun _ => rfl) (by simp) (by decide) (by decide) (by decide) hc h (fun h => ?_)
  refine AW_put (ci := 3) (k0 := 3) (C := RX3) (T := TX3) (N := 4) (ty0 := tyX3) dX3_init_9 rfl (gT_u tU_X3) tyX3_ok nmX3 (by decide) (List.mem_cons_of_mem _ tF_X3_9) (Or.inr ⟨rfl, rfl, rfl⟩) rfl rfl h (fun A1 _ h => ?_)
  refine AW_case h (fun hc h => ?_) (fun _ h => by cases h)
  exact AW_vret dX3_init_12 rfl hc h
def f_X3_init (N : Nat) (A : hP) (x0 : Option Nat) : Option (Unit × hP) := f_X3_init_0 N A 0 0 x0
set_option maxRecDepth 20000 in
theorem c_X3_init {l : Launch} (N : Nat) (A : hP) (x0 : Option Nat) (res : Unit × hP) (h : f_X3_init N A x0 = some res) : Ct l mX3_init 1 1 40 A [va_rf x0] (gu res) := Ct.of (lv := [(0, va_rf x0)]) (ls := [some (va_rf x0)]) (by decide) (by simp [lv_args, g_cat_rf, cat_i, cat_l]) rfl (by simp [g_cat_rf, cat_i, cat_l]) (fun G => (t_X3_init_0 N A 0 0 x0 res h))
abbrev mX6_init : gM := gMk yX6_init cX6_init 1 none
def f_X6_init_0 (N : Nat) (A : hP) (cs ss : Nat) (x0 : Option Nat) : Option (Unit × hP) := (oOb A x0).bind fun _ => if cs + 1 ≤ 1 ∧ ss + 400 ≤ 400 then (if A.length < 1000000 then ((oP (A ++ [.inl (1, 400, .inl (fun _ => 0))]) x0 6 0 (va_rf (some A.length))).bind fun A1 => if cs + 1 ≤ 1 ∧ ss + 400 ≤ 400 then (some ((), A1)) else none) else none) else none
set_option maxRecDepth 20000 in
set_option maxHeartbeats 4000000 in
theorem t_X6_init_0 {l : Launch} {G : gS} (N : Nat) (A : hP) (cs ss : Nat) (x0 : Option Nat) (res : Unit × hP) (h : f_X6_init_0 N A cs ss x0 = some res) : AW l mX6_init (g_rm 1 1 400) G (g_Qf G (gu res) 1 400) A cs ss 0 [some (va_rf x0)] [] := by
  unfold f_X6_init_0 at h
  refine AW_aload_n dX6_init_0 rfl ?_
  refine AW_objInit dX6_init_1 gT_s tM_X6_3 tI_obj tY_obj ⟨by decide, by decide⟩ (Nat.le_of_ble_eq_true rfl) h (fun h => ?_)
  refine AW_aload_n dX6_init_4 rfl ?_
  refine AW_sipush (v := 400) dX6_init_5 (by decide) ?_
  refine AW_case h (fun hc h => ?_) (fun _ h => by cases h)
  refine AW_newa (t := 1) (N := 400) (ty := .byte) dX6_init_8 (List.mem_cons_of_mem _ tArr_byte) rfl (fun _ => rfl) (by simp) (by decide) (by decide) (by decide) hc h (fun h => ?_)
  refine AW_put (ci := 6) (k0 := 0) (C := RX6) (T := TX6) (N := 8) (ty0 := tyX6) dX6_init_10 rfl (gT_u tU_X6) tyX6_ok nmX6 (by decide) (List.mem_cons_of_mem _ tF_X6_11) (Or.inr ⟨rfl, rfl, rfl⟩) rfl rfl h (fun A1 _ h => ?_)
  refine AW_case h (fun hc h => ?_) (fun _ h => by cases h)
  exact AW_vret dX6_init_13 rfl hc h
def f_X6_init (N : Nat) (A : hP) (x0 : Option Nat) : Option (Unit × hP) := f_X6_init_0 N A 0 0 x0
set_option maxRecDepth 20000 in
theorem c_X6_init {l : Launch} (N : Nat) (A : hP) (x0 : Option Nat) (res : Unit × hP) (h : f_X6_init N A x0 = some res) : Ct l mX6_init 1 1 400 A [va_rf x0] (gu res) := Ct.of (lv := [(0, va_rf x0)]) (ls := [some (va_rf x0)]) (by decide) (by simp [lv_args, g_cat_rf, cat_i, cat_l]) rfl (by simp [g_cat_rf, cat_i, cat_l]) (fun G => (t_X6_init_0 N A 0 0 x0 res h))
abbrev mX2_init : gM := gMk yX2_init cX2_init 1 none
def f_X2_init_0 (N : Nat) (A : hP) (cs ss : Nat) (x0 : Option Nat) : Option (Unit × hP) := (oOb A x0).bind fun _ => if cs + 1 ≤ 4 ∧ ss + 4 ≤ 38 then (if A.length < 1000000 then ((oP (A ++ [.inl (0, 4, .inl (fun _ => 0))]) x0 2 7 (va_rf (some A.length))).bind fun A1 => if cs + 1 + 1 ≤ 4 ∧ ss + 4 + 4 ≤ 38 then (if A1.length < 1000000 then ((oP (A1 ++ [.inl (0, 4, .inl (fun _ => 0))]) x0 2 8 (va_rf (some A1.length))).bind fun A2 => if cs + 1 + 1 + 1 ≤ 4 ∧ ss + 4 + 4 + 4 ≤ 38 then (if A2.length < 1000000 then ((oP (A2 ++ [.inl (5, 4, .inr (.inr (.inr (.inr (fun _ => none)))))]) x0 2 9 (va_rf (some A2.length))).bind fun A3 => if cs + 1 + 1 + 1 + 1 ≤ 4 ∧ ss + 4 + 4 + 4 + 26 ≤ 38 then (if A3.length < 1000000 then ((oP (A3 ++ [.inl (0, 26, .inl (fun _ => 0))]) x0 2 10 (va_rf (some A3.length))).bind fun A4 => if cs + 1 + 1 + 1 + 1 ≤ 4 ∧ ss + 4 + 4 + 4 + 26 ≤ 38 then (some ((), A4)) else none) else none) else none) else none) else none) else none) else none) else none) else none
set_option maxRecDepth 20000 in
set_option maxHeartbeats 4000000 in
theorem t_X2_init_0 {l : Launch} {G : gS} (N : Nat) (A : hP) (cs ss : Nat) (x0 : Option Nat) (res : Unit × hP) (h : f_X2_init_0 N A cs ss x0 = some res) : AW l mX2_init (g_rm 1 4 38) G (g_Qf G (gu res) 4 38) A cs ss 0 [some (va_rf x0)] [] := by
  unfold f_X2_init_0 at h
  refine AW_aload_n dX2_init_0 rfl ?_
  refine AW_objInit dX2_init_1 gT_s tM_X2_3 tI_obj tY_obj ⟨by decide, by decide⟩ (Nat.le_of_ble_eq_true rfl) h (fun h => ?_)
  refine AW_aload_n dX2_init_4 rfl ?_
  refine AW_iconst (v := 4) dX2_init_5 (by decide) ?_
  refine AW_case h (fun hc h => ?_) (fun _ h => by cases h)
  refine AW_newa (t := 0) (N := 4) (ty := .int) dX2_init_6 (List.mem_cons_of_mem _ tArr_int) rfl (fun _ => rfl) (by simp) (by decide) (by decide) (by decide) hc h (fun h => ?_)
  refine AW_put (ci := 2) (k0 := 7) (C := RX2) (T := TX2) (N := 11) (ty0 := tyX2) dX2_init_8 rfl (gT_u tU_X2) tyX2_ok nmX2 (by decide) (List.mem_cons_of_mem _ tF_X2_9) (Or.inr ⟨rfl, rfl, rfl⟩) rfl rfl h (fun A1 _ h => ?_)
  refine AW_aload_n dX2_init_11 rfl ?_
  refine AW_iconst (v := 4) dX2_init_12 (by decide) ?_
  refine AW_case h (fun hc h => ?_) (fun _ h => by cases h)
  refine AW_newa (t := 0) (N := 4) (ty := .int) dX2_init_13 (List.mem_cons_of_mem _ tArr_int) rfl (fun _ => rfl) (by simp) (by decide) (by decide) (by decide) hc h (fun h => ?_)
  refine AW_put (ci := 2) (k0 := 8) (C := RX2) (T := TX2) (N := 11) (ty0 := tyX2) dX2_init_15 rfl (gT_u tU_X2) tyX2_ok nmX2 (by decide) (List.mem_cons_of_mem _ tF_X2_15) (Or.inr ⟨rfl, rfl, rfl⟩) rfl rfl h (fun A2 _ h => ?_)
  refine AW_aload_n dX2_init_18 rfl ?_
  refine AW_iconst (v := 4) dX2_init_19 (by decide) ?_
  refine AW_case h (fun hc h => ?_) (fun _ h => by cases h)
  refine AW_newq (t := 5) (N := 4) (C := "YesterdayScale$Thing") dX2_init_20 (List.mem_cons_of_mem _ tC_X2_18) (fun _ h => h.1.2.2) (fun _ => rfl) (by decide) (by decide) (by decide) hc h (fun h => ?_)
  refine AW_put (ci := 2) (k0 := 9) (C := RX2) (T := TX2) (N := 11) (ty0 := tyX2) dX2_init_23 rfl (gT_u tU_X2) tyX2_ok nmX2 (by decide) (List.mem_cons_of_mem _ tF_X2_20) (Or.inr ⟨rfl, rfl, rfl⟩) rfl rfl h (fun A3 _ h => ?_)
  refine AW_aload_n dX2_init_26 rfl ?_
  refine AW_bipush (v := 26) dX2_init_27 (by decide) ?_
  refine AW_case h (fun hc h => ?_) (fun _ h => by cases h)
  refine AW_newa (t := 0) (N := 26) (ty := .int) dX2_init_29 (List.mem_cons_of_mem _ tArr_int) rfl (fun _ => rfl) (by simp) (by decide) (by decide) (by decide) hc h (fun h => ?_)
  refine AW_put (ci := 2) (k0 := 10) (C := RX2) (T := TX2) (N := 11) (ty0 := tyX2) dX2_init_31 rfl (gT_u tU_X2) tyX2_ok nmX2 (by decide) (List.mem_cons_of_mem _ tF_X2_24) (Or.inr ⟨rfl, rfl, rfl⟩) rfl rfl h (fun A4 _ h => ?_)
  refine AW_case h (fun hc h => ?_) (fun _ h => by cases h)
  exact AW_vret dX2_init_34 rfl hc h
def f_X2_init (N : Nat) (A : hP) (x0 : Option Nat) : Option (Unit × hP) := f_X2_init_0 N A 0 0 x0
set_option maxRecDepth 20000 in
theorem c_X2_init {l : Launch} (N : Nat) (A : hP) (x0 : Option Nat) (res : Unit × hP) (h : f_X2_init N A x0 = some res) : Ct l mX2_init 1 4 38 A [va_rf x0] (gu res) := Ct.of (lv := [(0, va_rf x0)]) (ls := [some (va_rf x0)]) (by decide) (by simp [lv_args, g_cat_rf, cat_i, cat_l]) rfl (by simp [g_cat_rf, cat_i, cat_l]) (fun G => (t_X2_init_0 N A 0 0 x0 res h))
abbrev mX10_init : gM := gMk yX10_init cX10_init 1 none
def f_X10_init_0 (N : Nat) (A : hP) (cs ss : Nat) (x0 : Option Nat) : Option (Unit × hP) := (oOb A x0).bind fun _ => if cs + 1 ≤ 5 ∧ ss + 1664 ≤ 7474 then (if A.length < 1000000 then ((oP (A ++ [.inl (0, 1664, .inl (fun _ => 0))]) x0 9 8 (va_rf (some A.length))).bind fun A1 => if cs + 1 + 1 ≤ 5 ∧ ss + 1664 + 1664 ≤ 7474 then (if A1.length < 1000000 then ((oP (A1 ++ [.inl (0, 1664, .inl (fun _ => 0))]) x0 9 9 (va_rf (some A1.length))).bind fun A2 => if cs + 1 + 1 + 1 ≤ 5 ∧ ss + 1664 + 1664 + 26 ≤ 7474 then (if A2.length < 1000000 then ((oP (A2 ++ [.inl (0, 26, .inl (fun _ => 0))]) x0 9 10 (va_rf (some A2.length))).bind fun A3 => if cs + 1 + 1 + 1 + 1 ≤ 5 ∧ ss + 1664 + 1664 + 26 + 24 ≤ 7474 then (if A3.length < 1000000 then ((oP (A3 ++ [.inl (0, 24, .inl (fun _ => 0))]) x0 9 11 (va_rf (some A3.length))).bind fun A4 => if cs + 1 + 1 + 1 + 1 + 1 ≤ 5 ∧ ss + 1664 + 1664 + 26 + 24 + 4096 ≤ 7474 then (if A4.length < 1000000 then ((oP (A4 ++ [.inl (0, 4096, .inl (fun _ => 0))]) x0 9 12 (va_rf (some A4.length))).bind fun A5 => if cs + 1 + 1 + 1 + 1 + 1 ≤ 5 ∧ ss + 1664 + 1664 + 26 + 24 + 4096 ≤ 7474 then (some ((), A5)) else none) else none) else none) else none) else none) else none) else none) else none) else none) else none) else none
set_option maxRecDepth 20000 in
set_option maxHeartbeats 4000000 in
theorem t_X10_init_0 {l : Launch} {G : gS} (N : Nat) (A : hP) (cs ss : Nat) (x0 : Option Nat) (res : Unit × hP) (h : f_X10_init_0 N A cs ss x0 = some res) : AW l mX10_init (g_rm 1 5 7474) G (g_Qf G (gu res) 5 7474) A cs ss 0 [some (va_rf x0)] [] := by
  unfold f_X10_init_0 at h
  refine AW_aload_n dX10_init_0 rfl ?_
  refine AW_objInit dX10_init_1 gT_s tM_X10_5 tI_obj tY_obj ⟨by decide, by decide⟩ (Nat.le_of_ble_eq_true rfl) h (fun h => ?_)
  refine AW_aload_n dX10_init_4 rfl ?_
  refine AW_sipush (v := 1664) dX10_init_5 (by decide) ?_
  refine AW_case h (fun hc h => ?_) (fun _ h => by cases h)
  refine AW_newa (t := 0) (N := 1664) (ty := .int) dX10_init_8 (List.mem_cons_of_mem _ tArr_int) rfl (fun _ => rfl) (by simp) (by decide) (by decide) (by decide) hc h (fun h => ?_)
  refine AW_put (ci := 9) (k0 := 8) (C := RX10) (T := TX10) (N := 13) (ty0 := tyX10) dX10_init_10 rfl (gT_u tU_X10) tyX10_ok nmX10 (by decide) (List.mem_cons_of_mem _ tF_X10_11) (Or.inr ⟨rfl, rfl, rfl⟩) rfl rfl h (fun A1 _ h => ?_)
  refine AW_aload_n dX10_init_13 rfl ?_
  refine AW_sipush (v := 1664) dX10_init_14 (by decide) ?_
  refine AW_case h (fun hc h => ?_) (fun _ h => by cases h)
  refine AW_newa (t := 0) (N := 1664) (ty := .int) dX10_init_17 (List.mem_cons_of_mem _ tArr_int) rfl (fun _ => rfl) (by simp) (by decide) (by decide) (by decide) hc h (fun h => ?_)
  refine AW_put (ci := 9) (k0 := 9) (C := RX10) (T := TX10) (N := 13) (ty0 := tyX10) dX10_init_19 rfl (gT_u tU_X10) tyX10_ok nmX10 (by decide) (List.mem_cons_of_mem _ tF_X10_15) (Or.inr ⟨rfl, rfl, rfl⟩) rfl rfl h (fun A2 _ h => ?_)
  refine AW_aload_n dX10_init_22 rfl ?_
  refine AW_bipush (v := 26) dX10_init_23 (by decide) ?_
  refine AW_case h (fun hc h => ?_) (fun _ h => by cases h)
  refine AW_newa (t := 0) (N := 26) (ty := .int) dX10_init_25 (List.mem_cons_of_mem _ tArr_int) rfl (fun _ => rfl) (by simp) (by decide) (by decide) (by decide) hc h (fun h => ?_)
  refine AW_put (ci := 9) (k0 := 10) (C := RX10) (T := TX10) (N := 13) (ty0 := tyX10) dX10_init_27 rfl (gT_u tU_X10) tyX10_ok nmX10 (by decide) (List.mem_cons_of_mem _ tF_X10_18) (Or.inr ⟨rfl, rfl, rfl⟩) rfl rfl h (fun A3 _ h => ?_)
  refine AW_aload_n dX10_init_30 rfl ?_
  refine AW_bipush (v := 24) dX10_init_31 (by decide) ?_
  refine AW_case h (fun hc h => ?_) (fun _ h => by cases h)
  refine AW_newa (t := 0) (N := 24) (ty := .int) dX10_init_33 (List.mem_cons_of_mem _ tArr_int) rfl (fun _ => rfl) (by simp) (by decide) (by decide) (by decide) hc h (fun h => ?_)
  refine AW_put (ci := 9) (k0 := 11) (C := RX10) (T := TX10) (N := 13) (ty0 := tyX10) dX10_init_35 rfl (gT_u tU_X10) tyX10_ok nmX10 (by decide) (List.mem_cons_of_mem _ tF_X10_21) (Or.inr ⟨rfl, rfl, rfl⟩) rfl rfl h (fun A4 _ h => ?_)
  refine AW_aload_n dX10_init_38 rfl ?_
  refine AW_sipush (v := 4096) dX10_init_39 (by decide) ?_
  refine AW_case h (fun hc h => ?_) (fun _ h => by cases h)
  refine AW_newa (t := 0) (N := 4096) (ty := .int) dX10_init_42 (List.mem_cons_of_mem _ tArr_int) rfl (fun _ => rfl) (by simp) (by decide) (by decide) (by decide) hc h (fun h => ?_)
  refine AW_put (ci := 9) (k0 := 12) (C := RX10) (T := TX10) (N := 13) (ty0 := tyX10) dX10_init_44 rfl (gT_u tU_X10) tyX10_ok nmX10 (by decide) (List.mem_cons_of_mem _ tF_X10_24) (Or.inr ⟨rfl, rfl, rfl⟩) rfl rfl h (fun A5 _ h => ?_)
  refine AW_case h (fun hc h => ?_) (fun _ h => by cases h)
  exact AW_vret dX10_init_47 rfl hc h
def f_X10_init (N : Nat) (A : hP) (x0 : Option Nat) : Option (Unit × hP) := f_X10_init_0 N A 0 0 x0
set_option maxRecDepth 20000 in
theorem c_X10_init {l : Launch} (N : Nat) (A : hP) (x0 : Option Nat) (res : Unit × hP) (h : f_X10_init N A x0 = some res) : Ct l mX10_init 1 5 7474 A [va_rf x0] (gu res) := Ct.of (lv := [(0, va_rf x0)]) (ls := [some (va_rf x0)]) (by decide) (by simp [lv_args, g_cat_rf, cat_i, cat_l]) rfl (by simp [g_cat_rf, cat_i, cat_l]) (fun G => (t_X10_init_0 N A 0 0 x0 res h))
abbrev mX12_init : gM := gMk yX12_init cX12_init 1 none
def f_X12_init_0 (N : Nat) (A : hP) (cs ss : Nat) (x0 : Option Nat) : Option (Unit × hP) := (oOb A x0).bind fun _ => if cs + 1 ≤ 12 ∧ ss + 8 ≤ 5036 then (if A.length < 1000000 then ((oS (A ++ [.inl (0, 8, .inl (fun _ => 0))]) (some A.length) 0 (0 : Int32) (-1 : Int32)).bind fun A1 => (oS A1 (some A.length) 0 (1 : Int32) (-1 : Int32)).bind fun A2 => (oS A2 (some A.length) 0 (2 : Int32) (-1 : Int32)).bind fun A3 => (oS A3 (some A.length) 0 (3 : Int32) (-1 : Int32)).bind fun A4 => (oS A4 (some A.length) 0 (4 : Int32) (-1 : Int32)).bind fun A5 => (oS A5 (some A.length) 0 (5 : Int32) (-1 : Int32)).bind fun A6 => (oS A6 (some A.length) 0 (6 : Int32) (-1 : Int32)).bind fun A7 => (oS A7 (some A.length) 0 (7 : Int32) (-1 : Int32)).bind fun A8 => (oP A8 x0 11 2 (va_rf (some A.length))).bind fun A9 => if cs + 1 + 1 ≤ 12 ∧ ss + 8 + 8 ≤ 5036 then (if A9.length < 1000000 then ((oP (A9 ++ [.inl (0, 8, .inl (fun _ => 0))]) x0 11 3 (va_rf (some A9.length))).bind fun A10 => if cs + 1 + 1 + 1 ≤ 12 ∧ ss + 8 + 8 + 320 ≤ 5036 then (if A10.length < 1000000 then ((oP (A10 ++ [.inl (0, 320, .inl (fun _ => 0))]) x0 11 4 (va_rf (some A10.length))).bind fun A11 => if cs + 1 + 1 + 1 + 1 ≤ 12 ∧ ss + 8 + 8 + 320 + 39 ≤ 5036 then (if A11.length < 1000000 then ((oP (A11 ++ [.inl (0, 39, .inl (fun _ => 0))]) x0 11 5 (va_rf (some A11.length))).bind fun A12 => if cs + 1 + 1 + 1 + 1 + 1 ≤ 12 ∧ ss + 8 + 8 + 320 + 39 + 39 ≤ 5036 then (if A12.length < 1000000 then ((oP (A12 ++ [.inl (0, 39, .inl (fun _ => 0))]) x0 11 6 (va_rf (some A12.length))).bind fun A13 => if cs + 1 + 1 + 1 + 1 + 1 + 1 ≤ 12 ∧ ss + 8 + 8 + 320 + 39 + 39 + 400 ≤ 5036 then (if A13.length < 1000000 then ((oP (A13 ++ [.inl (0, 400, .inl (fun _ => 0))]) x0 11 7 (va_rf (some A13.length))).bind fun A14 => if cs + 1 + 1 + 1 + 1 + 1 + 1 + 1 ≤ 12 ∧ ss + 8 + 8 + 320 + 39 + 39 + 400 + 4 ≤ 5036 then (if A14.length < 1000000 then ((oP (A14 ++ [.inl (0, 4, .inl (fun _ => 0))]) x0 11 17 (va_rf (some A14.length))).bind fun A15 => if cs + 1 + 1 + 1 + 1 + 1 + 1 + 1 + 1 ≤ 12 ∧ ss + 8 + 8 + 320 + 39 + 39 + 400 + 4 + 4096 ≤ 5036 then (if A15.length < 1000000 then ((oP (A15 ++ [.inl (0, 4096, .inl (fun _ => 0))]) x0 11 21 (va_rf (some A15.length))).bind fun A16 => if cs + 1 + 1 + 1 + 1 + 1 + 1 + 1 + 1 + 1 ≤ 12 ∧ ss + 8 + 8 + 320 + 39 + 39 + 400 + 4 + 4096 + 26 ≤ 5036 then (if A16.length < 1000000 then ((oP (A16 ++ [.inl (0, 26, .inl (fun _ => 0))]) x0 11 23 (va_rf (some A16.length))).bind fun A17 => if cs + 1 + 1 + 1 + 1 + 1 + 1 + 1 + 1 + 1 + 1 ≤ 12 ∧ ss + 8 + 8 + 320 + 39 + 39 + 400 + 4 + 4096 + 26 + 2 ≤ 5036 then (if A17.length < 1000000 then ((oP (A17 ++ [.inl (2, 2, .inl (fun _ => 0))]) x0 11 27 (va_rf (some A17.length))).bind fun A18 => if cs + 1 + 1 + 1 + 1 + 1 + 1 + 1 + 1 + 1 + 1 + 1 ≤ 12 ∧ ss + 8 + 8 + 320 + 39 + 39 + 400 + 4 + 4096 + 26 + 2 + 78 ≤ 5036 then (if A18.length < 1000000 then ((oP (A18 ++ [.inl (0, 78, .inl (fun _ => 0))]) x0 11 28 (va_rf (some A18.length))).bind fun A19 => if cs + 1 + 1 + 1 + 1 + 1 + 1 + 1 + 1 + 1 + 1 + 1 + 1 ≤ 12 ∧ ss + 8 + 8 + 320 + 39 + 39 + 400 + 4 + 4096 + 26 + 2 + 78 + 16 ≤ 5036 then (if A19.length < 1000000 then ((oP (A19 ++ [.inl (0, 16, .inl (fun _ => 0))]) x0 11 29 (va_rf (some A19.length))).bind fun A20 => if cs + 1 + 1 + 1 + 1 + 1 + 1 + 1 + 1 + 1 + 1 + 1 + 1 ≤ 12 ∧ ss + 8 + 8 + 320 + 39 + 39 + 400 + 4 + 4096 + 26 + 2 + 78 + 16 ≤ 5036 then (some ((), A20)) else none) else none) else none) else none) else none) else none) else none) else none) else none) else none) else none) else none) else none) else none) else none) else none) else none) else none) else none) else none) else none) else none) else none) else none) else none
set_option maxRecDepth 20000 in
set_option maxHeartbeats 4000000 in
theorem t_X12_init_0 {l : Launch} {G : gS} (N : Nat) (A : hP) (cs ss : Nat) (x0 : Option Nat) (res : Unit × hP) (h : f_X12_init_0 N A cs ss x0 = some res) : AW l mX12_init (g_rm 1 12 5036) G (g_Qf G (gu res) 12 5036) A cs ss 0 [some (va_rf x0)] [] := by
  unfold f_X12_init_0 at h
  refine AW_aload_n dX12_init_0 rfl ?_
  refine AW_objInit dX12_init_1 gT_s tM_X12_1 tI_obj tY_obj ⟨by decide, by decide⟩ (Nat.le_of_ble_eq_true rfl) h (fun h => ?_)
  refine AW_aload_n dX12_init_4 rfl ?_
  refine AW_bipush (v := 8) dX12_init_5 (by decide) ?_
  refine AW_case h (fun hc h => ?_) (fun _ h => by cases h)
  refine AW_newa (t := 0) (N := 8) (ty := .int) dX12_init_7 (List.mem_cons_of_mem _ tArr_int) rfl (fun _ => rfl) (by simp) (by decide) (by decide) (by decide) hc h (fun h => ?_)
  refine AW_dup dX12_init_9 (g_cat_rf _) ?_
  refine AW_iconst (v := 0) dX12_init_10 (by decide) ?_
  refine AW_iconst (v := -1) dX12_init_11 (by decide) ?_
  refine AW_iast dX12_init_12 h (fun A1 _ h => ?_)
  refine AW_dup dX12_init_13 (g_cat_rf _) ?_
  refine AW_iconst (v := 1) dX12_init_14 (by decide) ?_
  refine AW_iconst (v := -1) dX12_init_15 (by decide) ?_
  refine AW_iast dX12_init_16 h (fun A2 _ h => ?_)
  refine AW_dup dX12_init_17 (g_cat_rf _) ?_
  refine AW_iconst (v := 2) dX12_init_18 (by decide) ?_
  refine AW_iconst (v := -1) dX12_init_19 (by decide) ?_
  refine AW_iast dX12_init_20 h (fun A3 _ h => ?_)
  refine AW_dup dX12_init_21 (g_cat_rf _) ?_
  refine AW_iconst (v := 3) dX12_init_22 (by decide) ?_
  refine AW_iconst (v := -1) dX12_init_23 (by decide) ?_
  refine AW_iast dX12_init_24 h (fun A4 _ h => ?_)
  refine AW_dup dX12_init_25 (g_cat_rf _) ?_
  refine AW_iconst (v := 4) dX12_init_26 (by decide) ?_
  refine AW_iconst (v := -1) dX12_init_27 (by decide) ?_
  refine AW_iast dX12_init_28 h (fun A5 _ h => ?_)
  refine AW_dup dX12_init_29 (g_cat_rf _) ?_
  refine AW_iconst (v := 5) dX12_init_30 (by decide) ?_
  refine AW_iconst (v := -1) dX12_init_31 (by decide) ?_
  refine AW_iast dX12_init_32 h (fun A6 _ h => ?_)
  refine AW_dup dX12_init_33 (g_cat_rf _) ?_
  refine AW_bipush (v := 6) dX12_init_34 (by decide) ?_
  refine AW_iconst (v := -1) dX12_init_36 (by decide) ?_
  refine AW_iast dX12_init_37 h (fun A7 _ h => ?_)
  refine AW_dup dX12_init_38 (g_cat_rf _) ?_
  refine AW_bipush (v := 7) dX12_init_39 (by decide) ?_
  refine AW_iconst (v := -1) dX12_init_41 (by decide) ?_
  refine AW_iast dX12_init_42 h (fun A8 _ h => ?_)
  refine AW_put (ci := 11) (k0 := 2) (C := RX12) (T := TX12) (N := 31) (ty0 := tyX12) dX12_init_43 rfl (gT_u tU_X12) tyX12_ok nmX12 (by decide) (List.mem_cons_of_mem _ tF_X12_7) (Or.inr ⟨rfl, rfl, rfl⟩) rfl rfl h (fun A9 _ h => ?_)
  refine AW_aload_n dX12_init_46 rfl ?_
  refine AW_bipush (v := 8) dX12_init_47 (by decide) ?_
  refine AW_case h (fun hc h => ?_) (fun _ h => by cases h)
  refine AW_newa (t := 0) (N := 8) (ty := .int) dX12_init_49 (List.mem_cons_of_mem _ tArr_int) rfl (fun _ => rfl) (by simp) (by decide) (by decide) (by decide) hc h (fun h => ?_)
  refine AW_put (ci := 11) (k0 := 3) (C := RX12) (T := TX12) (N := 31) (ty0 := tyX12) dX12_init_51 rfl (gT_u tU_X12) tyX12_ok nmX12 (by decide) (List.mem_cons_of_mem _ tF_X12_13) (Or.inr ⟨rfl, rfl, rfl⟩) rfl rfl h (fun A10 _ h => ?_)
  refine AW_aload_n dX12_init_54 rfl ?_
  refine AW_sipush (v := 320) dX12_init_55 (by decide) ?_
  refine AW_case h (fun hc h => ?_) (fun _ h => by cases h)
  refine AW_newa (t := 0) (N := 320) (ty := .int) dX12_init_58 (List.mem_cons_of_mem _ tArr_int) rfl (fun _ => rfl) (by simp) (by decide) (by decide) (by decide) hc h (fun h => ?_)
  refine AW_put (ci := 11) (k0 := 4) (C := RX12) (T := TX12) (N := 31) (ty0 := tyX12) dX12_init_60 rfl (gT_u tU_X12) tyX12_ok nmX12 (by decide) (List.mem_cons_of_mem _ tF_X12_16) (Or.inr ⟨rfl, rfl, rfl⟩) rfl rfl h (fun A11 _ h => ?_)
  refine AW_aload_n dX12_init_63 rfl ?_
  refine AW_bipush (v := 39) dX12_init_64 (by decide) ?_
  refine AW_case h (fun hc h => ?_) (fun _ h => by cases h)
  refine AW_newa (t := 0) (N := 39) (ty := .int) dX12_init_66 (List.mem_cons_of_mem _ tArr_int) rfl (fun _ => rfl) (by simp) (by decide) (by decide) (by decide) hc h (fun h => ?_)
  refine AW_put (ci := 11) (k0 := 5) (C := RX12) (T := TX12) (N := 31) (ty0 := tyX12) dX12_init_68 rfl (gT_u tU_X12) tyX12_ok nmX12 (by decide) (List.mem_cons_of_mem _ tF_X12_19) (Or.inr ⟨rfl, rfl, rfl⟩) rfl rfl h (fun A12 _ h => ?_)
  refine AW_aload_n dX12_init_71 rfl ?_
  refine AW_bipush (v := 39) dX12_init_72 (by decide) ?_
  refine AW_case h (fun hc h => ?_) (fun _ h => by cases h)
  refine AW_newa (t := 0) (N := 39) (ty := .int) dX12_init_74 (List.mem_cons_of_mem _ tArr_int) rfl (fun _ => rfl) (by simp) (by decide) (by decide) (by decide) hc h (fun h => ?_)
  refine AW_put (ci := 11) (k0 := 6) (C := RX12) (T := TX12) (N := 31) (ty0 := tyX12) dX12_init_76 rfl (gT_u tU_X12) tyX12_ok nmX12 (by decide) (List.mem_cons_of_mem _ tF_X12_22) (Or.inr ⟨rfl, rfl, rfl⟩) rfl rfl h (fun A13 _ h => ?_)
  refine AW_aload_n dX12_init_79 rfl ?_
  refine AW_sipush (v := 400) dX12_init_80 (by decide) ?_
  refine AW_case h (fun hc h => ?_) (fun _ h => by cases h)
  refine AW_newa (t := 0) (N := 400) (ty := .int) dX12_init_83 (List.mem_cons_of_mem _ tArr_int) rfl (fun _ => rfl) (by simp) (by decide) (by decide) (by decide) hc h (fun h => ?_)
  refine AW_put (ci := 11) (k0 := 7) (C := RX12) (T := TX12) (N := 31) (ty0 := tyX12) dX12_init_85 rfl (gT_u tU_X12) tyX12_ok nmX12 (by decide) (List.mem_cons_of_mem _ tF_X12_25) (Or.inr ⟨rfl, rfl, rfl⟩) rfl rfl h (fun A14 _ h => ?_)
  refine AW_aload_n dX12_init_88 rfl ?_
  refine AW_iconst (v := 4) dX12_init_89 (by decide) ?_
  refine AW_case h (fun hc h => ?_) (fun _ h => by cases h)
  refine AW_newa (t := 0) (N := 4) (ty := .int) dX12_init_90 (List.mem_cons_of_mem _ tArr_int) rfl (fun _ => rfl) (by simp) (by decide) (by decide) (by decide) hc h (fun h => ?_)
  refine AW_put (ci := 11) (k0 := 17) (C := RX12) (T := TX12) (N := 31) (ty0 := tyX12) dX12_init_92 rfl (gT_u tU_X12) tyX12_ok nmX12 (by decide) (List.mem_cons_of_mem _ tF_X12_28) (Or.inr ⟨rfl, rfl, rfl⟩) rfl rfl h (fun A15 _ h => ?_)
  refine AW_aload_n dX12_init_95 rfl ?_
  refine AW_sipush (v := 4096) dX12_init_96 (by decide) ?_
  refine AW_case h (fun hc h => ?_) (fun _ h => by cases h)
  refine AW_newa (t := 0) (N := 4096) (ty := .int) dX12_init_99 (List.mem_cons_of_mem _ tArr_int) rfl (fun _ => rfl) (by simp) (by decide) (by decide) (by decide) hc h (fun h => ?_)
  refine AW_put (ci := 11) (k0 := 21) (C := RX12) (T := TX12) (N := 31) (ty0 := tyX12) dX12_init_101 rfl (gT_u tU_X12) tyX12_ok nmX12 (by decide) (List.mem_cons_of_mem _ tF_X12_31) (Or.inr ⟨rfl, rfl, rfl⟩) rfl rfl h (fun A16 _ h => ?_)
  refine AW_aload_n dX12_init_104 rfl ?_
  refine AW_bipush (v := 26) dX12_init_105 (by decide) ?_
  refine AW_case h (fun hc h => ?_) (fun _ h => by cases h)
  refine AW_newa (t := 0) (N := 26) (ty := .int) dX12_init_107 (List.mem_cons_of_mem _ tArr_int) rfl (fun _ => rfl) (by simp) (by decide) (by decide) (by decide) hc h (fun h => ?_)
  refine AW_put (ci := 11) (k0 := 23) (C := RX12) (T := TX12) (N := 31) (ty0 := tyX12) dX12_init_109 rfl (gT_u tU_X12) tyX12_ok nmX12 (by decide) (List.mem_cons_of_mem _ tF_X12_34) (Or.inr ⟨rfl, rfl, rfl⟩) rfl rfl h (fun A17 _ h => ?_)
  refine AW_aload_n dX12_init_112 rfl ?_
  refine AW_iconst (v := 2) dX12_init_113 (by decide) ?_
  refine AW_case h (fun hc h => ?_) (fun _ h => by cases h)
  refine AW_newa (t := 2) (N := 2) (ty := .boolean) dX12_init_114 (List.mem_cons_of_mem _ tArr_boolean) rfl (fun _ => rfl) (by simp) (by decide) (by decide) (by decide) hc h (fun h => ?_)
  refine AW_put (ci := 11) (k0 := 27) (C := RX12) (T := TX12) (N := 31) (ty0 := tyX12) dX12_init_116 rfl (gT_u tU_X12) tyX12_ok nmX12 (by decide) (List.mem_cons_of_mem _ tF_X12_37) (Or.inr ⟨rfl, rfl, rfl⟩) rfl rfl h (fun A18 _ h => ?_)
  refine AW_aload_n dX12_init_119 rfl ?_
  refine AW_bipush (v := 78) dX12_init_120 (by decide) ?_
  refine AW_case h (fun hc h => ?_) (fun _ h => by cases h)
  refine AW_newa (t := 0) (N := 78) (ty := .int) dX12_init_122 (List.mem_cons_of_mem _ tArr_int) rfl (fun _ => rfl) (by simp) (by decide) (by decide) (by decide) hc h (fun h => ?_)
  refine AW_put (ci := 11) (k0 := 28) (C := RX12) (T := TX12) (N := 31) (ty0 := tyX12) dX12_init_124 rfl (gT_u tU_X12) tyX12_ok nmX12 (by decide) (List.mem_cons_of_mem _ tF_X12_41) (Or.inr ⟨rfl, rfl, rfl⟩) rfl rfl h (fun A19 _ h => ?_)
  refine AW_aload_n dX12_init_127 rfl ?_
  refine AW_bipush (v := 16) dX12_init_128 (by decide) ?_
  refine AW_case h (fun hc h => ?_) (fun _ h => by cases h)
  refine AW_newa (t := 0) (N := 16) (ty := .int) dX12_init_130 (List.mem_cons_of_mem _ tArr_int) rfl (fun _ => rfl) (by simp) (by decide) (by decide) (by decide) hc h (fun h => ?_)
  refine AW_put (ci := 11) (k0 := 29) (C := RX12) (T := TX12) (N := 31) (ty0 := tyX12) dX12_init_132 rfl (gT_u tU_X12) tyX12_ok nmX12 (by decide) (List.mem_cons_of_mem _ tF_X12_44) (Or.inr ⟨rfl, rfl, rfl⟩) rfl rfl h (fun A20 _ h => ?_)
  refine AW_case h (fun hc h => ?_) (fun _ h => by cases h)
  exact AW_vret dX12_init_135 rfl hc h
def f_X12_init (N : Nat) (A : hP) (x0 : Option Nat) : Option (Unit × hP) := f_X12_init_0 N A 0 0 x0
set_option maxRecDepth 20000 in
theorem c_X12_init {l : Launch} (N : Nat) (A : hP) (x0 : Option Nat) (res : Unit × hP) (h : f_X12_init N A x0 = some res) : Ct l mX12_init 1 12 5036 A [va_rf x0] (gu res) := Ct.of (lv := [(0, va_rf x0)]) (ls := [some (va_rf x0)]) (by decide) (by simp [lv_args, g_cat_rf, cat_i, cat_l]) rfl (by simp [g_cat_rf, cat_i, cat_l]) (fun G => (t_X12_init_0 N A 0 0 x0 res h))
abbrev mX11_init : gM := gMk yX11_init cX11_init 2 none
def f_X11_init_105 (N : Nat) : Nat → hP → Nat → Nat → Option Nat → Int32 → Option (Unit × hP)
  | 0, _, _, _, _, _ => none
  | n + 1, A, cs, ss, x0, x1 => if (2 : Int32) ≤ x1 then (if cs ≤ 48 ∧ ss ≤ 8472 then (some ((), A)) else none) else ((oR A x0 10 4).bind fun v1 => if cs + 1 ≤ 48 ∧ ss + 11 ≤ 8472 then (if A.length < 1000000 then (if cs + 1 + 4 ≤ 48 ∧ ss + 11 + 38 ≤ 8472 then ((oOb (A ++ [.inr (2, [.int 0, .int 0, .int 0, .int 0, .int 0, .int 0, .int 0, .null, .null, .null, .null])]) (some A.length)).bind fun _ => (f_X2_init N (A ++ [.inr (2, [.int 0, .int 0, .int 0, .int 0, .int 0, .int 0, .int 0, .null, .null, .null, .null])]) (some A.length)).bind fun q2 => if okPort q2.2 (some A.length) = true then (oU q2.2 v1 4 x1 (some A.length)).bind fun A3 => f_X11_init_105 N n A3 (cs + 1 + 4) (ss + 11 + 38) x0 (x1 + (1 : Int32)) else none) else none) else none) else none)
set_option maxRecDepth 20000 in
set_option maxHeartbeats 4000000 in
theorem t_X11_init_105 {l : Launch} {G : gS} (N : Nat) : ∀ (n : Nat) (A : hP) (cs ss : Nat) (x0 : Option Nat) (x1 : Int32) (res : Unit × hP), f_X11_init_105 N n A cs ss x0 x1 = some res → AW l mX11_init (g_rm 2 48 8472) G (g_Qf G (gu res) 48 8472) A cs ss 105 [some (va_rf x0), some (.int x1)] [] := by
  intro n
  induction n with
  | zero => intro A cs ss x0 x1 res h; cases h
  | succ n ih =>
    intro A cs ss x0 x1 res h
    rw [f_X11_init_105] at h
    refine AW_iload_n dX11_init_105 rfl ?_
    refine AW_iconst (v := 2) dX11_init_106 (by decide) ?_
    refine AW_icmp_ge (tgt := 129) dX11_init_107 (by decide) h (fun _ h => ?_) (fun _ h => ?_)
    · refine AW_case h (fun hc h => ?_) (fun _ h => by cases h)
      exact AW_vret dX11_init_129 rfl hc h
    · refine AW_aload_n dX11_init_110 rfl ?_
      refine AW_getR (ci := 10) (k0 := 4) (C := RX11) (T := TX11) (N := 9) dX11_init_111 rfl (gT_u tU_X11) (by decide) (List.mem_cons_of_mem _ tF_X11_32) h (fun v1 _ h => ?_)
      refine AW_iload_n dX11_init_114 rfl ?_
      refine AW_case h (fun hc h => ?_) (fun _ h => by cases h)
      refine AW_new (ci := 2) (N := 11) (C := RX2) (T := TX2) (ty0 := tyX2) (fs := [.int 0, .int 0, .int 0, .int 0, .int 0, .int 0, .int 0, .null, .null, .null, .null]) dX11_init_115 rfl (gT_u tU_X2) tyX2_ok (List.mem_cons_of_mem _ tC_X11_22) (List.mem_cons_of_mem _ tIns_X2) (List.mem_cons_of_mem _ tIni_X2) (by decide) (fun _ => rfl) hc h (fun h => ?_)
      refine AW_dup dX11_init_118 (g_cat_rf _) ?_
      refine AW_case h (fun hc h => ?_) (fun _ h => by cases h)
      refine AW_callNu (y := yX2_init) (cc := cX2_init) (n := 1) (d := 1) (mc := 4) (ms := 38) (np := 0) (As := []) (st := [va_rf (some A.length), .int x1, va_rf v1]) (host := "YesterdayScale") dX11_init_119 gT_s (by decide +kernel) tI_X2_init tIni_X2 tY_X2_init rfl (by decide +kernel) ⟨by decide, by decide⟩ hc (Nat.le_of_ble_eq_true rfl) rfl h (fun q hq => c_X2_init N _ _ q hq) (fun q2 _ h => ?_)
      refine AW_case h (fun hok h => ?_) (fun _ h => by cases h)
      refine AW_aast (C := "YesterdayScale$Port") (fun _ => rfl) dX11_init_122 (okPort_s hok) h (fun A3 _ h => ?_)
      refine AW_iinc (v := 1) (ls' := [some (va_rf x0), some (.int (x1 + (1 : Int32)))]) dX11_init_123 rfl (c1_r rfl) (by decide) (by decide) rfl ?_
      refine AW_goto (tgt := 105) dX11_init_126 (by decide) ?_
      exact (ih _ _ _ _ _ _ h)
def f_X11_init_78 (N : Nat) : Nat → hP → Nat → Nat → Option Nat → Int32 → Option (Unit × hP)
  | 0, _, _, _, _, _ => none
  | n + 1, A, cs, ss, x0, x1 => if (8 : Int32) ≤ x1 then (f_X11_init_105 N N A cs ss x0 (0 : Int32)) else ((oR A x0 10 0).bind fun v4 => if cs + 1 ≤ 48 ∧ ss + 4 ≤ 8472 then (if A.length < 1000000 then (if cs + 1 + 1 ≤ 48 ∧ ss + 4 + 40 ≤ 8472 then ((oOb (A ++ [.inr (3, [.int 0, .int 0, .int 0, .null])]) (some A.length)).bind fun _ => (f_X3_init N (A ++ [.inr (3, [.int 0, .int 0, .int 0, .null])]) (some A.length)).bind fun q5 => if okRow q5.2 (some A.length) = true then (oU q5.2 v4 3 x1 (some A.length)).bind fun A6 => f_X11_init_78 N n A6 (cs + 1 + 1) (ss + 4 + 40) x0 (x1 + (1 : Int32)) else none) else none) else none) else none)
set_option maxRecDepth 20000 in
set_option maxHeartbeats 4000000 in
theorem t_X11_init_78 {l : Launch} {G : gS} (N : Nat) : ∀ (n : Nat) (A : hP) (cs ss : Nat) (x0 : Option Nat) (x1 : Int32) (res : Unit × hP), f_X11_init_78 N n A cs ss x0 x1 = some res → AW l mX11_init (g_rm 2 48 8472) G (g_Qf G (gu res) 48 8472) A cs ss 78 [some (va_rf x0), some (.int x1)] [] := by
  intro n
  induction n with
  | zero => intro A cs ss x0 x1 res h; cases h
  | succ n ih =>
    intro A cs ss x0 x1 res h
    rw [f_X11_init_78] at h
    refine AW_iload_n dX11_init_78 rfl ?_
    refine AW_bipush (v := 8) dX11_init_79 (by decide) ?_
    refine AW_icmp_ge (tgt := 103) dX11_init_81 (by decide) h (fun _ h => ?_) (fun _ h => ?_)
    · refine AW_iconst (v := 0) dX11_init_103 (by decide) ?_
      refine AW_istore_n (ls' := [some (va_rf x0), some (.int (0 : Int32))]) dX11_init_104 (c1_r rfl) (by decide) rfl ?_
      exact (t_X11_init_105 N N _ _ _ _ _ _ h)
    · refine AW_aload_n dX11_init_84 rfl ?_
      refine AW_getR (ci := 10) (k0 := 0) (C := RX11) (T := TX11) (N := 9) dX11_init_85 rfl (gT_u tU_X11) (by decide) (List.mem_cons_of_mem _ tF_X11_11) h (fun v4 _ h => ?_)
      refine AW_iload_n dX11_init_88 rfl ?_
      refine AW_case h (fun hc h => ?_) (fun _ h => by cases h)
      refine AW_new (ci := 3) (N := 4) (C := RX3) (T := TX3) (ty0 := tyX3) (fs := [.int 0, .int 0, .int 0, .null]) dX11_init_89 rfl (gT_u tU_X3) tyX3_ok (List.mem_cons_of_mem _ tC_X11_9) (List.mem_cons_of_mem _ tIns_X3) (List.mem_cons_of_mem _ tIni_X3) (by decide) (fun _ => rfl) hc h (fun h => ?_)
      refine AW_dup dX11_init_92 (g_cat_rf _) ?_
      refine AW_case h (fun hc h => ?_) (fun _ h => by cases h)
      refine AW_callNu (y := yX3_init) (cc := cX3_init) (n := 1) (d := 1) (mc := 1) (ms := 40) (np := 0) (As := []) (st := [va_rf (some A.length), .int x1, va_rf v4]) (host := "YesterdayScale") dX11_init_93 gT_s (by decide +kernel) tI_X3_init tIni_X3 tY_X3_init rfl (by decide +kernel) ⟨by decide, by decide⟩ hc (Nat.le_of_ble_eq_true rfl) rfl h (fun q hq => c_X3_init N _ _ q hq) (fun q5 _ h => ?_)
      refine AW_case h (fun hok h => ?_) (fun _ h => by cases h)
      refine AW_aast (C := "YesterdayScale$Row") (fun _ => rfl) dX11_init_96 (okRow_s hok) h (fun A6 _ h => ?_)
      refine AW_iinc (v := 1) (ls' := [some (va_rf x0), some (.int (x1 + (1 : Int32)))]) dX11_init_97 rfl (c1_r rfl) (by decide) (by decide) rfl ?_
      refine AW_goto (tgt := 78) dX11_init_100 (by decide) ?_
      exact (ih _ _ _ _ _ _ h)
def f_X11_init_0 (N : Nat) (A : hP) (cs ss : Nat) (x0 : Option Nat) : Option (Unit × hP) := (oOb A x0).bind fun _ => if cs + 1 ≤ 48 ∧ ss + 8 ≤ 8472 then (if A.length < 1000000 then ((oP (A ++ [.inl (3, 8, .inr (.inr (.inr (.inr (fun _ => none)))))]) x0 10 0 (va_rf (some A.length))).bind fun A7 => if cs + 1 + 1 ≤ 48 ∧ ss + 8 + 8 ≤ 8472 then (if A7.length < 1000000 then (if cs + 1 + 1 + 1 ≤ 48 ∧ ss + 8 + 8 + 400 ≤ 8472 then ((oOb (A7 ++ [.inr (6, [.null, .int 0, .int 0, .int 0, .int 0, .int 0, .int 0, .int 0])]) (some A7.length)).bind fun _ => (f_X6_init N (A7 ++ [.inr (6, [.null, .int 0, .int 0, .int 0, .int 0, .int 0, .int 0, .int 0])]) (some A7.length)).bind fun q8 => (oP q8.2 x0 10 1 (va_rf (some A7.length))).bind fun A9 => if cs + 1 + 1 + 1 + 1 ≤ 48 ∧ ss + 8 + 8 + 400 + 11 ≤ 8472 then (if A9.length < 1000000 then (if cs + 1 + 1 + 1 + 1 + 4 ≤ 48 ∧ ss + 8 + 8 + 400 + 11 + 38 ≤ 8472 then ((oOb (A9 ++ [.inr (2, [.int 0, .int 0, .int 0, .int 0, .int 0, .int 0, .int 0, .null, .null, .null, .null])]) (some A9.length)).bind fun _ => (f_X2_init N (A9 ++ [.inr (2, [.int 0, .int 0, .int 0, .int 0, .int 0, .int 0, .int 0, .null, .null, .null, .null])]) (some A9.length)).bind fun q10 => (oP q10.2 x0 10 2 (va_rf (some A9.length))).bind fun A11 => if cs + 1 + 1 + 1 + 1 + 4 + 1 ≤ 48 ∧ ss + 8 + 8 + 400 + 11 + 38 + 11 ≤ 8472 then (if A11.length < 1000000 then (if cs + 1 + 1 + 1 + 1 + 4 + 1 + 4 ≤ 48 ∧ ss + 8 + 8 + 400 + 11 + 38 + 11 + 38 ≤ 8472 then ((oOb (A11 ++ [.inr (2, [.int 0, .int 0, .int 0, .int 0, .int 0, .int 0, .int 0, .null, .null, .null, .null])]) (some A11.length)).bind fun _ => (f_X2_init N (A11 ++ [.inr (2, [.int 0, .int 0, .int 0, .int 0, .int 0, .int 0, .int 0, .null, .null, .null, .null])]) (some A11.length)).bind fun q12 => (oP q12.2 x0 10 3 (va_rf (some A11.length))).bind fun A13 => if cs + 1 + 1 + 1 + 1 + 4 + 1 + 4 + 1 ≤ 48 ∧ ss + 8 + 8 + 400 + 11 + 38 + 11 + 38 + 2 ≤ 8472 then (if A13.length < 1000000 then ((oP (A13 ++ [.inl (4, 2, .inr (.inr (.inr (.inr (fun _ => none)))))]) x0 10 4 (va_rf (some A13.length))).bind fun A14 => if cs + 1 + 1 + 1 + 1 + 4 + 1 + 4 + 1 + 1 ≤ 48 ∧ ss + 8 + 8 + 400 + 11 + 38 + 11 + 38 + 2 + 13 ≤ 8472 then (if A14.length < 1000000 then (if cs + 1 + 1 + 1 + 1 + 4 + 1 + 4 + 1 + 1 + 5 ≤ 48 ∧ ss + 8 + 8 + 400 + 11 + 38 + 11 + 38 + 2 + 13 + 7474 ≤ 8472 then ((oOb (A14 ++ [.inr (9, [.int 0, .int 0, .int 0, .int 0, .int 0, .int 0, .int 0, .int 0, .null, .null, .null, .null, .null])]) (some A14.length)).bind fun _ => (f_X10_init N (A14 ++ [.inr (9, [.int 0, .int 0, .int 0, .int 0, .int 0, .int 0, .int 0, .int 0, .null, .null, .null, .null, .null])]) (some A14.length)).bind fun q15 => (oP q15.2 x0 10 5 (va_rf (some A14.length))).bind fun A16 => if cs + 1 + 1 + 1 + 1 + 4 + 1 + 4 + 1 + 1 + 5 + 1 ≤ 48 ∧ ss + 8 + 8 + 400 + 11 + 38 + 11 + 38 + 2 + 13 + 7474 + 3 ≤ 8472 then (if A16.length < 1000000 then (if cs + 1 + 1 + 1 + 1 + 4 + 1 + 4 + 1 + 1 + 5 + 1 + 1 ≤ 48 ∧ ss + 8 + 8 + 400 + 11 + 38 + 11 + 38 + 2 + 13 + 7474 + 3 + 16 ≤ 8472 then ((oOb (A16 ++ [.inr (0, [.int 0, .int 0, .null])]) (some A16.length)).bind fun _ => (f_X0_init N (A16 ++ [.inr (0, [.int 0, .int 0, .null])]) (some A16.length)).bind fun q17 => (oP q17.2 x0 10 6 (va_rf (some A16.length))).bind fun A18 => f_X11_init_78 N N A18 (cs + 1 + 1 + 1 + 1 + 4 + 1 + 4 + 1 + 1 + 5 + 1 + 1) (ss + 8 + 8 + 400 + 11 + 38 + 11 + 38 + 2 + 13 + 7474 + 3 + 16) x0 (0 : Int32)) else none) else none) else none) else none) else none) else none) else none) else none) else none) else none) else none) else none) else none) else none) else none) else none) else none) else none) else none
set_option maxRecDepth 20000 in
set_option maxHeartbeats 4000000 in
theorem t_X11_init_0 {l : Launch} {G : gS} (N : Nat) (A : hP) (cs ss : Nat) (x0 : Option Nat) (res : Unit × hP) (h : f_X11_init_0 N A cs ss x0 = some res) : AW l mX11_init (g_rm 2 48 8472) G (g_Qf G (gu res) 48 8472) A cs ss 0 [some (va_rf x0), none] [] := by
  unfold f_X11_init_0 at h
  refine AW_aload_n dX11_init_0 rfl ?_
  refine AW_objInit dX11_init_1 gT_s tM_X11_1 tI_obj tY_obj ⟨by decide, by decide⟩ (Nat.le_of_ble_eq_true rfl) h (fun h => ?_)
  refine AW_aload_n dX11_init_4 rfl ?_
  refine AW_bipush (v := 8) dX11_init_5 (by decide) ?_
  refine AW_case h (fun hc h => ?_) (fun _ h => by cases h)
  refine AW_newq (t := 3) (N := 8) (C := "YesterdayScale$Row") dX11_init_7 (List.mem_cons_of_mem _ tC_X11_9) (fun _ h => h.1.1) (fun _ => rfl) (by decide) (by decide) (by decide) hc h (fun h => ?_)
  refine AW_put (ci := 10) (k0 := 0) (C := RX11) (T := TX11) (N := 9) (ty0 := tyX11) dX11_init_10 rfl (gT_u tU_X11) tyX11_ok nmX11 (by decide) (List.mem_cons_of_mem _ tF_X11_11) (Or.inr ⟨rfl, rfl, rfl⟩) rfl rfl h (fun A7 _ h => ?_)
  refine AW_aload_n dX11_init_13 rfl ?_
  refine AW_case h (fun hc h => ?_) (fun _ h => by cases h)
  refine AW_new (ci := 6) (N := 8) (C := RX6) (T := TX6) (ty0 := tyX6) (fs := [.null, .int 0, .int 0, .int 0, .int 0, .int 0, .int 0, .int 0]) dX11_init_14 rfl (gT_u tU_X6) tyX6_ok (List.mem_cons_of_mem _ tC_X11_15) (List.mem_cons_of_mem _ tIns_X6) (List.mem_cons_of_mem _ tIni_X6) (by decide) (fun _ => rfl) hc h (fun h => ?_)
  refine AW_dup dX11_init_17 (g_cat_rf _) ?_
  refine AW_case h (fun hc h => ?_) (fun _ h => by cases h)
  refine AW_callNu (y := yX6_init) (cc := cX6_init) (n := 1) (d := 1) (mc := 1) (ms := 400) (np := 0) (As := []) (st := [va_rf (some A7.length), va_rf x0]) (host := "YesterdayScale") dX11_init_18 gT_s (by decide +kernel) tI_X6_init tIni_X6 tY_X6_init rfl (by decide +kernel) ⟨by decide, by decide⟩ hc (Nat.le_of_ble_eq_true rfl) rfl h (fun q hq => c_X6_init N _ _ q hq) (fun q8 _ h => ?_)
  refine AW_put (ci := 10) (k0 := 1) (C := RX11) (T := TX11) (N := 9) (ty0 := tyX11) dX11_init_21 rfl (gT_u tU_X11) tyX11_ok nmX11 (by decide) (List.mem_cons_of_mem _ tF_X11_18) (Or.inr ⟨rfl, rfl, rfl⟩) rfl rfl h (fun A9 _ h => ?_)
  refine AW_aload_n dX11_init_24 rfl ?_
  refine AW_case h (fun hc h => ?_) (fun _ h => by cases h)
  refine AW_new (ci := 2) (N := 11) (C := RX2) (T := TX2) (ty0 := tyX2) (fs := [.int 0, .int 0, .int 0, .int 0, .int 0, .int 0, .int 0, .null, .null, .null, .null]) dX11_init_25 rfl (gT_u tU_X2) tyX2_ok (List.mem_cons_of_mem _ tC_X11_22) (List.mem_cons_of_mem _ tIns_X2) (List.mem_cons_of_mem _ tIni_X2) (by decide) (fun _ => rfl) hc h (fun h => ?_)
  refine AW_dup dX11_init_28 (g_cat_rf _) ?_
  refine AW_case h (fun hc h => ?_) (fun _ h => by cases h)
  refine AW_callNu (y := yX2_init) (cc := cX2_init) (n := 1) (d := 1) (mc := 4) (ms := 38) (np := 0) (As := []) (st := [va_rf (some A9.length), va_rf x0]) (host := "YesterdayScale") dX11_init_29 gT_s (by decide +kernel) tI_X2_init tIni_X2 tY_X2_init rfl (by decide +kernel) ⟨by decide, by decide⟩ hc (Nat.le_of_ble_eq_true rfl) rfl h (fun q hq => c_X2_init N _ _ q hq) (fun q10 _ h => ?_)
  refine AW_put (ci := 10) (k0 := 2) (C := RX11) (T := TX11) (N := 9) (ty0 := tyX11) dX11_init_32 rfl (gT_u tU_X11) tyX11_ok nmX11 (by decide) (List.mem_cons_of_mem _ tF_X11_25) (Or.inr ⟨rfl, rfl, rfl⟩) rfl rfl h (fun A11 _ h => ?_)
  refine AW_aload_n dX11_init_35 rfl ?_
  refine AW_case h (fun hc h => ?_) (fun _ h => by cases h)
  refine AW_new (ci := 2) (N := 11) (C := RX2) (T := TX2) (ty0 := tyX2) (fs := [.int 0, .int 0, .int 0, .int 0, .int 0, .int 0, .int 0, .null, .null, .null, .null]) dX11_init_36 rfl (gT_u tU_X2) tyX2_ok (List.mem_cons_of_mem _ tC_X11_22) (List.mem_cons_of_mem _ tIns_X2) (List.mem_cons_of_mem _ tIni_X2) (by decide) (fun _ => rfl) hc h (fun h => ?_)
  refine AW_dup dX11_init_39 (g_cat_rf _) ?_
  refine AW_case h (fun hc h => ?_) (fun _ h => by cases h)
  refine AW_callNu (y := yX2_init) (cc := cX2_init) (n := 1) (d := 1) (mc := 4) (ms := 38) (np := 0) (As := []) (st := [va_rf (some A11.length), va_rf x0]) (host := "YesterdayScale") dX11_init_40 gT_s (by decide +kernel) tI_X2_init tIni_X2 tY_X2_init rfl (by decide +kernel) ⟨by decide, by decide⟩ hc (Nat.le_of_ble_eq_true rfl) rfl h (fun q hq => c_X2_init N _ _ q hq) (fun q12 _ h => ?_)
  refine AW_put (ci := 10) (k0 := 3) (C := RX11) (T := TX11) (N := 9) (ty0 := tyX11) dX11_init_43 rfl (gT_u tU_X11) tyX11_ok nmX11 (by decide) (List.mem_cons_of_mem _ tF_X11_29) (Or.inr ⟨rfl, rfl, rfl⟩) rfl rfl h (fun A13 _ h => ?_)
  refine AW_aload_n dX11_init_46 rfl ?_
  refine AW_iconst (v := 2) dX11_init_47 (by decide) ?_
  refine AW_case h (fun hc h => ?_) (fun _ h => by cases h)
  refine AW_newq (t := 4) (N := 2) (C := "YesterdayScale$Port") dX11_init_48 (List.mem_cons_of_mem _ tC_X11_22) (fun _ h => h.1.2.1) (fun _ => rfl) (by decide) (by decide) (by decide) hc h (fun h => ?_)
  refine AW_put (ci := 10) (k0 := 4) (C := RX11) (T := TX11) (N := 9) (ty0 := tyX11) dX11_init_51 rfl (gT_u tU_X11) tyX11_ok nmX11 (by decide) (List.mem_cons_of_mem _ tF_X11_32) (Or.inr ⟨rfl, rfl, rfl⟩) rfl rfl h (fun A14 _ h => ?_)
  refine AW_aload_n dX11_init_54 rfl ?_
  refine AW_case h (fun hc h => ?_) (fun _ h => by cases h)
  refine AW_new (ci := 9) (N := 13) (C := RX10) (T := TX10) (ty0 := tyX10) (fs := [.int 0, .int 0, .int 0, .int 0, .int 0, .int 0, .int 0, .int 0, .null, .null, .null, .null, .null]) dX11_init_55 rfl (gT_u tU_X10) tyX10_ok (List.mem_cons_of_mem _ tC_X11_36) (List.mem_cons_of_mem _ tIns_X10) (List.mem_cons_of_mem _ tIni_X10) (by decide) (fun _ => rfl) hc h (fun h => ?_)
  refine AW_dup dX11_init_58 (g_cat_rf _) ?_
  refine AW_case h (fun hc h => ?_) (fun _ h => by cases h)
  refine AW_callNu (y := yX10_init) (cc := cX10_init) (n := 1) (d := 1) (mc := 5) (ms := 7474) (np := 0) (As := []) (st := [va_rf (some A14.length), va_rf x0]) (host := "YesterdayScale") dX11_init_59 gT_s (by decide +kernel) tI_X10_init tIni_X10 tY_X10_init rfl (by decide +kernel) ⟨by decide, by decide⟩ hc (Nat.le_of_ble_eq_true rfl) rfl h (fun q hq => c_X10_init N _ _ q hq) (fun q15 _ h => ?_)
  refine AW_put (ci := 10) (k0 := 5) (C := RX11) (T := TX11) (N := 9) (ty0 := tyX11) dX11_init_62 rfl (gT_u tU_X11) tyX11_ok nmX11 (by decide) (List.mem_cons_of_mem _ tF_X11_39) (Or.inr ⟨rfl, rfl, rfl⟩) rfl rfl h (fun A16 _ h => ?_)
  refine AW_aload_n dX11_init_65 rfl ?_
  refine AW_case h (fun hc h => ?_) (fun _ h => by cases h)
  refine AW_new (ci := 0) (N := 3) (C := RX0) (T := TX0) (ty0 := tyX0) (fs := [.int 0, .int 0, .null]) dX11_init_66 rfl (gT_u tU_X0) tyX0_ok (List.mem_cons_of_mem _ tC_X11_43) (List.mem_cons_of_mem _ tIns_X0) (List.mem_cons_of_mem _ tIni_X0) (by decide) (fun _ => rfl) hc h (fun h => ?_)
  refine AW_dup dX11_init_69 (g_cat_rf _) ?_
  refine AW_case h (fun hc h => ?_) (fun _ h => by cases h)
  refine AW_callNu (y := yX0_init) (cc := cX0_init) (n := 1) (d := 1) (mc := 1) (ms := 16) (np := 0) (As := []) (st := [va_rf (some A16.length), va_rf x0]) (host := "YesterdayScale") dX11_init_70 gT_s (by decide +kernel) tI_X0_init tIni_X0 tY_X0_init rfl (by decide +kernel) ⟨by decide, by decide⟩ hc (Nat.le_of_ble_eq_true rfl) rfl h (fun q hq => c_X0_init N _ _ q hq) (fun q17 _ h => ?_)
  refine AW_put (ci := 10) (k0 := 6) (C := RX11) (T := TX11) (N := 9) (ty0 := tyX11) dX11_init_73 rfl (gT_u tU_X11) tyX11_ok nmX11 (by decide) (List.mem_cons_of_mem _ tF_X11_46) (Or.inr ⟨rfl, rfl, rfl⟩) rfl rfl h (fun A18 _ h => ?_)
  refine AW_iconst (v := 0) dX11_init_76 (by decide) ?_
  refine AW_istore_n (ls' := [some (va_rf x0), some (.int (0 : Int32))]) dX11_init_77 (c1_r rfl) (by decide) rfl ?_
  exact (t_X11_init_78 N N _ _ _ _ _ _ h)
def f_X11_init (N : Nat) (A : hP) (x0 : Option Nat) : Option (Unit × hP) := f_X11_init_0 N A 0 0 x0
set_option maxRecDepth 20000 in
theorem c_X11_init {l : Launch} (N : Nat) (A : hP) (x0 : Option Nat) (res : Unit × hP) (h : f_X11_init N A x0 = some res) : Ct l mX11_init 2 48 8472 A [va_rf x0] (gu res) := Ct.of (lv := [(0, va_rf x0)]) (ls := [some (va_rf x0), none]) (by decide) (by simp [lv_args, g_cat_rf, cat_i, cat_l]) rfl (by simp [g_cat_rf, cat_i, cat_l]) (fun G => (t_X11_init_0 N A 0 0 x0 res h))
