abbrev mX2_clear : gM := gMk yX2_clear cX2_clear 1 none
def f_X2_clear_0 (N : Nat) (A : hP) (x0 : Option Nat) : Option (Unit × hP) := (oP A x0 2 4 (.int (0 : Int32))).bind fun A1 => (oP A1 x0 2 5 (.int (0 : Int32))).bind fun A2 => (oP A2 x0 2 6 (.int (0 : Int32))).bind fun A3 => some ((), A3)
set_option maxRecDepth 20000 in
set_option maxHeartbeats 4000000 in
theorem t_X2_clear_0 {l : Launch} {G : gS} (N : Nat) (A : hP) (x0 : Option Nat) (res : Unit × hP) (h : f_X2_clear_0 N A x0 = some res) : AW l mX2_clear (g_rm 0 0 0) G (g_Qf G (gu res) 0 0) A 0 0 0 [some (va_rf x0)] [] := by
  unfold f_X2_clear_0 at h
  refine AW_aload_n dX2_clear_0 rfl ?_
  refine AW_iconst (v := 0) dX2_clear_1 (by decide) ?_
  refine AW_put (ci := 2) (k0 := 4) (C := RX2) (T := TX2) (N := 11) (ty0 := tyX2) dX2_clear_2 rfl (gT_u tU_X2) tyX2_ok nmX2 (by decide) (List.mem_cons_of_mem _ tF_X2_27) (Or.inl rfl) rfl rfl h (fun A1 _ h => ?_)
  refine AW_aload_n dX2_clear_5 rfl ?_
  refine AW_iconst (v := 0) dX2_clear_6 (by decide) ?_
  refine AW_put (ci := 2) (k0 := 5) (C := RX2) (T := TX2) (N := 11) (ty0 := tyX2) dX2_clear_7 rfl (gT_u tU_X2) tyX2_ok nmX2 (by decide) (List.mem_cons_of_mem _ tF_X2_31) (Or.inl rfl) rfl rfl h (fun A2 _ h => ?_)
  refine AW_aload_n dX2_clear_10 rfl ?_
  refine AW_iconst (v := 0) dX2_clear_11 (by decide) ?_
  refine AW_put (ci := 2) (k0 := 6) (C := RX2) (T := TX2) (N := 11) (ty0 := tyX2) dX2_clear_12 rfl (gT_u tU_X2) tyX2_ok nmX2 (by decide) (List.mem_cons_of_mem _ tF_X2_34) (Or.inl rfl) rfl rfl h (fun A3 _ h => ?_)
  exact AW_vret dX2_clear_15 rfl ⟨Nat.zero_le _, Nat.zero_le _⟩ h
def f_X2_clear (N : Nat) (A : hP) (x0 : Option Nat) : Option (Unit × hP) := f_X2_clear_0 N A x0
set_option maxRecDepth 20000 in
theorem c_X2_clear {l : Launch} (N : Nat) (A : hP) (x0 : Option Nat) (res : Unit × hP) (h : f_X2_clear N A x0 = some res) : Ct l mX2_clear 0 0 0 A [va_rf x0] (gu res) := Ct.of (lv := [(0, va_rf x0)]) (ls := [some (va_rf x0)]) (by decide) (by simp [lv_args, g_cat_rf, cat_i, cat_l]) rfl (by simp [g_cat_rf, cat_i, cat_l]) (fun G => (t_X2_clear_0 N A x0 res h))
abbrev mX2_addThing : gM := gMk yX2_addThing cX2_addThing 3 none
def f_X2_addThing_49 (N : Nat) (A : hP) (x0 : Option Nat) : Option (Unit × hP) := (oI A x0 2 4).bind fun v1 => (oP A x0 2 4 (.int (v1 + (1 : Int32)))).bind fun A2 => some ((), A2)
set_option maxRecDepth 20000 in
set_option maxHeartbeats 4000000 in
theorem t_X2_addThing_49 {l : Launch} {G : gS} (N : Nat) (A : hP) (x0 : Option Nat) (res : Unit × hP) (h : f_X2_addThing_49 N A x0 = some res) : AW l mX2_addThing (g_rm 0 0 0) G (g_Qf G (gu res) 0 0) A 0 0 49 [some (va_rf x0), none, none] [] := by
  unfold f_X2_addThing_49 at h
  refine AW_aload_n dX2_addThing_49 rfl ?_
  refine AW_dup dX2_addThing_50 (g_cat_rf _) ?_
  refine AW_getI (ci := 2) (k0 := 4) (C := RX2) (T := TX2) (N := 11) dX2_addThing_51 rfl (gT_u tU_X2) (by decide) (List.mem_cons_of_mem _ tF_X2_27) h (fun v1 _ h => ?_)
  refine AW_iconst (v := 1) dX2_addThing_54 (by decide) ?_
  refine AW_iadd dX2_addThing_55 ?_
  refine AW_put (ci := 2) (k0 := 4) (C := RX2) (T := TX2) (N := 11) (ty0 := tyX2) dX2_addThing_56 rfl (gT_u tU_X2) tyX2_ok nmX2 (by decide) (List.mem_cons_of_mem _ tF_X2_27) (Or.inl rfl) rfl rfl h (fun A2 _ h => ?_)
  exact AW_vret dX2_addThing_59 rfl ⟨Nat.zero_le _, Nat.zero_le _⟩ h
def f_X2_addThing_0 (N : Nat) (A : hP) (x0 : Option Nat) (x1 : Int32) (x2 : Int32) : Option (Unit × hP) := (oI A x0 2 4).bind fun v3 => if v3 < (4 : Int32) then ((oR A x0 2 7).bind fun v4 => (oI A x0 2 4).bind fun v5 => (oS A v4 0 v5 x1).bind fun A6 => (oR A6 x0 2 8).bind fun v7 => (oI A6 x0 2 4).bind fun v8 => (oS A6 v7 0 v8 x2).bind fun A9 => if x1 = (4 : Int32) then ((oI A9 x0 2 6).bind fun v10 => (oI A9 x0 2 4).bind fun v11 => (oP A9 x0 2 6 (.int (v10 ||| ((1 : Int32) <<< (v11 &&& 31))))).bind fun A12 => f_X2_addThing_49 N A12 x0) else (f_X2_addThing_49 N A9 x0)) else (some ((), A))
set_option maxRecDepth 20000 in
set_option maxHeartbeats 4000000 in
theorem t_X2_addThing_0 {l : Launch} {G : gS} (N : Nat) (A : hP) (x0 : Option Nat) (x1 : Int32) (x2 : Int32) (res : Unit × hP) (h : f_X2_addThing_0 N A x0 x1 x2 = some res) : AW l mX2_addThing (g_rm 0 0 0) G (g_Qf G (gu res) 0 0) A 0 0 0 [some (va_rf x0), some (.int x1), some (.int x2)] [] := by
  unfold f_X2_addThing_0 at h
  refine AW_aload_n dX2_addThing_0 rfl ?_
  refine AW_getI (ci := 2) (k0 := 4) (C := RX2) (T := TX2) (N := 11) dX2_addThing_1 rfl (gT_u tU_X2) (by decide) (List.mem_cons_of_mem _ tF_X2_27) h (fun v3 _ h => ?_)
  refine AW_iconst (v := 4) dX2_addThing_4 (by decide) ?_
  refine AW_icmp_lt (tgt := 9) dX2_addThing_5 (by decide) h (fun _ h => ?_) (fun _ h => ?_)
  · refine AW_aload_n dX2_addThing_9 rfl ?_
    refine AW_getR (ci := 2) (k0 := 7) (C := RX2) (T := TX2) (N := 11) dX2_addThing_10 rfl (gT_u tU_X2) (by decide) (List.mem_cons_of_mem _ tF_X2_9) h (fun v4 _ h => ?_)
    refine AW_aload_n dX2_addThing_13 rfl ?_
    refine AW_getI (ci := 2) (k0 := 4) (C := RX2) (T := TX2) (N := 11) dX2_addThing_14 rfl (gT_u tU_X2) (by decide) (List.mem_cons_of_mem _ tF_X2_27) h (fun v5 _ h => ?_)
    refine AW_iload_n dX2_addThing_17 rfl ?_
    refine AW_iast dX2_addThing_18 h (fun A6 _ h => ?_)
    refine AW_aload_n dX2_addThing_19 rfl ?_
    refine AW_getR (ci := 2) (k0 := 8) (C := RX2) (T := TX2) (N := 11) dX2_addThing_20 rfl (gT_u tU_X2) (by decide) (List.mem_cons_of_mem _ tF_X2_15) h (fun v7 _ h => ?_)
    refine AW_aload_n dX2_addThing_23 rfl ?_
    refine AW_getI (ci := 2) (k0 := 4) (C := RX2) (T := TX2) (N := 11) dX2_addThing_24 rfl (gT_u tU_X2) (by decide) (List.mem_cons_of_mem _ tF_X2_27) h (fun v8 _ h => ?_)
    refine AW_iload_n dX2_addThing_27 rfl ?_
    refine AW_iast dX2_addThing_28 h (fun A9 _ h => ?_)
    refine AW_iload_n dX2_addThing_29 rfl ?_
    refine AW_iconst (v := 4) dX2_addThing_30 (by decide) ?_
    refine AW_icmp_ne (tgt := 49) dX2_addThing_31 (by decide) h (fun _ h => ?_) (fun _ h => ?_)
    · exact AW_fewer (fw_k (fw_d (fw_d fw_n))) (t_X2_addThing_49 N _ _ _ h)
    · refine AW_aload_n dX2_addThing_34 rfl ?_
      refine AW_dup dX2_addThing_35 (g_cat_rf _) ?_
      refine AW_getI (ci := 2) (k0 := 6) (C := RX2) (T := TX2) (N := 11) dX2_addThing_36 rfl (gT_u tU_X2) (by decide) (List.mem_cons_of_mem _ tF_X2_34) h (fun v10 _ h => ?_)
      refine AW_iconst (v := 1) dX2_addThing_39 (by decide) ?_
      refine AW_aload_n dX2_addThing_40 rfl ?_
      refine AW_getI (ci := 2) (k0 := 4) (C := RX2) (T := TX2) (N := 11) dX2_addThing_41 rfl (gT_u tU_X2) (by decide) (List.mem_cons_of_mem _ tF_X2_27) h (fun v11 _ h => ?_)
      refine AW_ishl dX2_addThing_44 ?_
      refine AW_ior dX2_addThing_45 ?_
      refine AW_put (ci := 2) (k0 := 6) (C := RX2) (T := TX2) (N := 11) (ty0 := tyX2) dX2_addThing_46 rfl (gT_u tU_X2) tyX2_ok nmX2 (by decide) (List.mem_cons_of_mem _ tF_X2_34) (Or.inl rfl) rfl rfl h (fun A12 _ h => ?_)
      exact AW_fewer (fw_k (fw_d (fw_d fw_n))) (t_X2_addThing_49 N _ _ _ h)
  · exact AW_vret dX2_addThing_8 rfl ⟨Nat.zero_le _, Nat.zero_le _⟩ h
def f_X2_addThing (N : Nat) (A : hP) (x0 : Option Nat) (x1 : Int32) (x2 : Int32) : Option (Unit × hP) := f_X2_addThing_0 N A x0 x1 x2
set_option maxRecDepth 20000 in
theorem c_X2_addThing {l : Launch} (N : Nat) (A : hP) (x0 : Option Nat) (x1 : Int32) (x2 : Int32) (res : Unit × hP) (h : f_X2_addThing N A x0 x1 x2 = some res) : Ct l mX2_addThing 0 0 0 A [va_rf x0, .int x1, .int x2] (gu res) := Ct.of (lv := [(0, va_rf x0), (1, .int x1), (2, .int x2)]) (ls := [some (va_rf x0), some (.int x1), some (.int x2)]) (by decide) (by simp [lv_args, g_cat_rf, cat_i, cat_l]) rfl (by simp [g_cat_rf, cat_i, cat_l]) (fun G => (t_X2_addThing_0 N A x0 x1 x2 res h))
abbrev mX2_allThings : gM := gMk yX2_allThings cX2_allThings 1 (some .int)
def f_X2_allThings_0 (N : Nat) (A : hP) (x0 : Option Nat) : Option (Int32 × hP) := (oI A x0 2 4).bind fun v1 => some (((1 : Int32) <<< (v1 &&& 31)) - (1 : Int32), A)
set_option maxRecDepth 20000 in
set_option maxHeartbeats 4000000 in
theorem t_X2_allThings_0 {l : Launch} {G : gS} (N : Nat) (A : hP) (x0 : Option Nat) (res : Int32 × hP) (h : f_X2_allThings_0 N A x0 = some res) : AW l mX2_allThings (g_rm 0 0 0) G (g_Qf G (gi res) 0 0) A 0 0 0 [some (va_rf x0)] [] := by
  unfold f_X2_allThings_0 at h
  refine AW_iconst (v := 1) dX2_allThings_0 (by decide) ?_
  refine AW_aload_n dX2_allThings_1 rfl ?_
  refine AW_getI (ci := 2) (k0 := 4) (C := RX2) (T := TX2) (N := 11) dX2_allThings_2 rfl (gT_u tU_X2) (by decide) (List.mem_cons_of_mem _ tF_X2_27) h (fun v1 _ h => ?_)
  refine AW_ishl dX2_allThings_5 ?_
  refine AW_iconst (v := 1) dX2_allThings_6 (by decide) ?_
  refine AW_isub dX2_allThings_7 ?_
  exact AW_iret dX2_allThings_8 rfl ⟨Nat.zero_le _, Nat.zero_le _⟩ h
def f_X2_allThings (N : Nat) (A : hP) (x0 : Option Nat) : Option (Int32 × hP) := f_X2_allThings_0 N A x0
set_option maxRecDepth 20000 in
theorem c_X2_allThings {l : Launch} (N : Nat) (A : hP) (x0 : Option Nat) (res : Int32 × hP) (h : f_X2_allThings N A x0 = some res) : Ct l mX2_allThings 0 0 0 A [va_rf x0] (gi res) := Ct.of (lv := [(0, va_rf x0)]) (ls := [some (va_rf x0)]) (by decide) (by simp [lv_args, g_cat_rf, cat_i, cat_l]) rfl (by simp [g_cat_rf, cat_i, cat_l]) (fun G => (t_X2_allThings_0 N A x0 res h))
abbrev mX2_addDay : gM := gMk yX2_addDay cX2_addDay 2 none
def f_X2_addDay_0 (N : Nat) (A : hP) (x0 : Option Nat) (x1 : Int32) : Option (Unit × hP) := (oI A x0 2 5).bind fun v1 => if v1 < (24 : Int32) then ((oR A x0 2 10).bind fun v2 => (oI A x0 2 5).bind fun v3 => (oS A v2 0 v3 x1).bind fun A4 => (oI A4 x0 2 5).bind fun v5 => (oP A4 x0 2 5 (.int (v5 + (1 : Int32)))).bind fun A6 => some ((), A6)) else (some ((), A))
set_option maxRecDepth 20000 in
set_option maxHeartbeats 4000000 in
theorem t_X2_addDay_0 {l : Launch} {G : gS} (N : Nat) (A : hP) (x0 : Option Nat) (x1 : Int32) (res : Unit × hP) (h : f_X2_addDay_0 N A x0 x1 = some res) : AW l mX2_addDay (g_rm 0 0 0) G (g_Qf G (gu res) 0 0) A 0 0 0 [some (va_rf x0), some (.int x1)] [] := by
  unfold f_X2_addDay_0 at h
  refine AW_aload_n dX2_addDay_0 rfl ?_
  refine AW_getI (ci := 2) (k0 := 5) (C := RX2) (T := TX2) (N := 11) dX2_addDay_1 rfl (gT_u tU_X2) (by decide) (List.mem_cons_of_mem _ tF_X2_31) h (fun v1 _ h => ?_)
  refine AW_bipush (v := 24) dX2_addDay_4 (by decide) ?_
  refine AW_icmp_lt (tgt := 10) dX2_addDay_6 (by decide) h (fun _ h => ?_) (fun _ h => ?_)
  · refine AW_aload_n dX2_addDay_10 rfl ?_
    refine AW_getR (ci := 2) (k0 := 10) (C := RX2) (T := TX2) (N := 11) dX2_addDay_11 rfl (gT_u tU_X2) (by decide) (List.mem_cons_of_mem _ tF_X2_24) h (fun v2 _ h => ?_)
    refine AW_aload_n dX2_addDay_14 rfl ?_
    refine AW_getI (ci := 2) (k0 := 5) (C := RX2) (T := TX2) (N := 11) dX2_addDay_15 rfl (gT_u tU_X2) (by decide) (List.mem_cons_of_mem _ tF_X2_31) h (fun v3 _ h => ?_)
    refine AW_iload_n dX2_addDay_18 rfl ?_
    refine AW_iast dX2_addDay_19 h (fun A4 _ h => ?_)
    refine AW_aload_n dX2_addDay_20 rfl ?_
    refine AW_dup dX2_addDay_21 (g_cat_rf _) ?_
    refine AW_getI (ci := 2) (k0 := 5) (C := RX2) (T := TX2) (N := 11) dX2_addDay_22 rfl (gT_u tU_X2) (by decide) (List.mem_cons_of_mem _ tF_X2_31) h (fun v5 _ h => ?_)
    refine AW_iconst (v := 1) dX2_addDay_25 (by decide) ?_
    refine AW_iadd dX2_addDay_26 ?_
    refine AW_put (ci := 2) (k0 := 5) (C := RX2) (T := TX2) (N := 11) (ty0 := tyX2) dX2_addDay_27 rfl (gT_u tU_X2) tyX2_ok nmX2 (by decide) (List.mem_cons_of_mem _ tF_X2_31) (Or.inl rfl) rfl rfl h (fun A6 _ h => ?_)
    exact AW_vret dX2_addDay_30 rfl ⟨Nat.zero_le _, Nat.zero_le _⟩ h
  · exact AW_vret dX2_addDay_9 rfl ⟨Nat.zero_le _, Nat.zero_le _⟩ h
def f_X2_addDay (N : Nat) (A : hP) (x0 : Option Nat) (x1 : Int32) : Option (Unit × hP) := f_X2_addDay_0 N A x0 x1
set_option maxRecDepth 20000 in
theorem c_X2_addDay {l : Launch} (N : Nat) (A : hP) (x0 : Option Nat) (x1 : Int32) (res : Unit × hP) (h : f_X2_addDay N A x0 x1 = some res) : Ct l mX2_addDay 0 0 0 A [va_rf x0, .int x1] (gu res) := Ct.of (lv := [(0, va_rf x0), (1, .int x1)]) (ls := [some (va_rf x0), some (.int x1)]) (by decide) (by simp [lv_args, g_cat_rf, cat_i, cat_l]) rfl (by simp [g_cat_rf, cat_i, cat_l]) (fun G => (t_X2_addDay_0 N A x0 x1 res h))
abbrev mX2_made : gM := gMk yX2_made cX2_made 3 (some (.object "YesterdayScale$Thing"))
def f_X2_made_0 (N : Nat) (A : hP) (cs ss : Nat) (x0 : Int32) (x1 : Int32) (x2 : Int32) : Option (Option Nat × hP) := if x0 = (2 : Int32) then (if cs + 1 ≤ 1 ∧ ss + 2 ≤ 2 then (if A.length < 1000000 then (if cs + 1 + 0 ≤ 1 ∧ ss + 2 + 0 ≤ 2 then ((oOb (A ++ [.inr (1, [.int 0, .int 0])]) (some A.length)).bind fun _ => (f_X1_init N (A ++ [.inr (1, [.int 0, .int 0])]) (some A.length) x1 x2).bind fun q1 => if cs + 1 + 0 ≤ 1 ∧ ss + 2 + 0 ≤ 2 then (some ((some A.length), q1.2)) else none) else none) else none) else none) else (if x0 = (3 : Int32) then (if cs + 1 ≤ 1 ∧ ss + 2 ≤ 2 then (if A.length < 1000000 then (if cs + 1 + 0 ≤ 1 ∧ ss + 2 + 0 ≤ 2 then ((oOb (A ++ [.inr (8, [.int 0, .int 0])]) (some A.length)).bind fun _ => (f_X9_init N (A ++ [.inr (8, [.int 0, .int 0])]) (some A.length) x1 x2).bind fun q2 => if cs + 1 + 0 ≤ 1 ∧ ss + 2 + 0 ≤ 2 then (some ((some A.length), q2.2)) else none) else none) else none) else none) else (if x0 = (4 : Int32) then (if cs + 1 ≤ 1 ∧ ss + 2 ≤ 2 then (if A.length < 1000000 then (if cs + 1 + 0 ≤ 1 ∧ ss + 2 + 0 ≤ 2 then ((oOb (A ++ [.inr (5, [.int 0, .int 0])]) (some A.length)).bind fun _ => (f_X5_init N (A ++ [.inr (5, [.int 0, .int 0])]) (some A.length) x1 x2).bind fun q3 => if cs + 1 + 0 ≤ 1 ∧ ss + 2 + 0 ≤ 2 then (some ((some A.length), q3.2)) else none) else none) else none) else none) else (if x0 = (5 : Int32) then (if cs + 1 ≤ 1 ∧ ss + 2 ≤ 2 then (if A.length < 1000000 then (if cs + 1 + 0 ≤ 1 ∧ ss + 2 + 0 ≤ 2 then ((oOb (A ++ [.inr (7, [.int 0, .int 0])]) (some A.length)).bind fun _ => (f_X8_init N (A ++ [.inr (7, [.int 0, .int 0])]) (some A.length) x1 x2).bind fun q4 => if cs + 1 + 0 ≤ 1 ∧ ss + 2 + 0 ≤ 2 then (some ((some A.length), q4.2)) else none) else none) else none) else none) else (if cs + 1 ≤ 1 ∧ ss + 2 ≤ 2 then (if A.length < 1000000 then (if cs + 1 + 0 ≤ 1 ∧ ss + 2 + 0 ≤ 2 then ((oOb (A ++ [.inr (4, [.int 0, .int 0])]) (some A.length)).bind fun _ => (f_X4_init N (A ++ [.inr (4, [.int 0, .int 0])]) (some A.length) x1 x2).bind fun q5 => if cs + 1 + 0 ≤ 1 ∧ ss + 2 + 0 ≤ 2 then (some ((some A.length), q5.2)) else none) else none) else none) else none))))
set_option maxRecDepth 20000 in
set_option maxHeartbeats 4000000 in
theorem t_X2_made_0 {l : Launch} {G : gS} (N : Nat) (A : hP) (cs ss : Nat) (x0 : Int32) (x1 : Int32) (x2 : Int32) (res : Option Nat × hP) (h : f_X2_made_0 N A cs ss x0 x1 x2 = some res) : AW l mX2_made (g_rm 4 1 2) G (g_Qf G (gr res) 1 2) A cs ss 0 [some (.int x0), some (.int x1), some (.int x2)] [] := by
  unfold f_X2_made_0 at h
  refine AW_iload_n dX2_made_0 rfl ?_
  refine AW_case h (fun e1_2 h => ?_) (fun e1_2 h => ?_)
  · refine AW_tabIn (c := 2) (off := 31) (tgt := 32) dX2_made_1 e1_2 (by decide) (by decide) (by decide) (by decide) ?_
    refine AW_case h (fun hc h => ?_) (fun _ h => by cases h)
    refine AW_new (ci := 1) (N := 2) (C := RX1) (T := TX1) (ty0 := tyX1) (fs := [.int 0, .int 0]) dX2_made_32 rfl (gT_u tU_X1) tyX1_ok (List.mem_cons_of_mem _ tC_X2_62) (List.mem_cons_of_mem _ tIns_X1) (List.mem_cons_of_mem _ tIni_X1) (by decide) (fun _ => rfl) hc h (fun h => ?_)
    refine AW_dup dX2_made_35 (g_cat_rf _) ?_
    refine AW_iload_n dX2_made_36 rfl ?_
    refine AW_iload_n dX2_made_37 rfl ?_
    refine AW_case h (fun hc h => ?_) (fun _ h => by cases h)
    refine AW_callIu (y := yX1_init) (cc := cX1_init) (n := 3) (d := 3) (mc := 0) (ms := 0) (np := 2) (As := [.int x1, .int x2]) (st := [va_rf (some A.length)]) dX2_made_38 gT_s tM_X2_64 tI_X1_init tIni_X1 tY_X1_init rfl (by decide +kernel) ⟨by decide, by decide⟩ hc (Nat.le_of_ble_eq_true rfl) rfl h (fun q hq => c_X1_init N _ _ _ _ q hq) (fun q1 _ h => ?_)
    refine AW_case h (fun hc h => ?_) (fun _ h => by cases h)
    exact AW_aret dX2_made_41 rfl hc h
  refine AW_case h (fun e1_3 h => ?_) (fun e1_3 h => ?_)
  · refine AW_tabIn (c := 3) (off := 41) (tgt := 42) dX2_made_1 e1_3 (by decide) (by decide) (by decide) (by decide) ?_
    refine AW_case h (fun hc h => ?_) (fun _ h => by cases h)
    refine AW_new (ci := 8) (N := 2) (C := RX9) (T := TX9) (ty0 := tyX9) (fs := [.int 0, .int 0]) dX2_made_42 rfl (gT_u tU_X9) tyX9_ok (List.mem_cons_of_mem _ tC_X2_67) (List.mem_cons_of_mem _ tIns_X9) (List.mem_cons_of_mem _ tIni_X9) (by decide) (fun _ => rfl) hc h (fun h => ?_)
    refine AW_dup dX2_made_45 (g_cat_rf _) ?_
    refine AW_iload_n dX2_made_46 rfl ?_
    refine AW_iload_n dX2_made_47 rfl ?_
    refine AW_case h (fun hc h => ?_) (fun _ h => by cases h)
    refine AW_callIu (y := yX9_init) (cc := cX9_init) (n := 3) (d := 3) (mc := 0) (ms := 0) (np := 2) (As := [.int x1, .int x2]) (st := [va_rf (some A.length)]) dX2_made_48 gT_s tM_X2_69 tI_X9_init tIni_X9 tY_X9_init rfl (by decide +kernel) ⟨by decide, by decide⟩ hc (Nat.le_of_ble_eq_true rfl) rfl h (fun q hq => c_X9_init N _ _ _ _ q hq) (fun q2 _ h => ?_)
    refine AW_case h (fun hc h => ?_) (fun _ h => by cases h)
    exact AW_aret dX2_made_51 rfl hc h
  refine AW_case h (fun e1_4 h => ?_) (fun e1_4 h => ?_)
  · refine AW_tabIn (c := 4) (off := 51) (tgt := 52) dX2_made_1 e1_4 (by decide) (by decide) (by decide) (by decide) ?_
    refine AW_case h (fun hc h => ?_) (fun _ h => by cases h)
    refine AW_new (ci := 5) (N := 2) (C := RX5) (T := TX5) (ty0 := tyX5) (fs := [.int 0, .int 0]) dX2_made_52 rfl (gT_u tU_X5) tyX5_ok (List.mem_cons_of_mem _ tC_X2_56) (List.mem_cons_of_mem _ tIns_X5) (List.mem_cons_of_mem _ tIni_X5) (by decide) (fun _ => rfl) hc h (fun h => ?_)
    refine AW_dup dX2_made_55 (g_cat_rf _) ?_
    refine AW_iload_n dX2_made_56 rfl ?_
    refine AW_iload_n dX2_made_57 rfl ?_
    refine AW_case h (fun hc h => ?_) (fun _ h => by cases h)
    refine AW_callIu (y := yX5_init) (cc := cX5_init) (n := 3) (d := 2) (mc := 0) (ms := 0) (np := 2) (As := [.int x1, .int x2]) (st := [va_rf (some A.length)]) dX2_made_58 gT_s tM_X2_70 tI_X5_init tIni_X5 tY_X5_init rfl (by decide +kernel) ⟨by decide, by decide⟩ hc (Nat.le_of_ble_eq_true rfl) rfl h (fun q hq => c_X5_init N _ _ _ _ q hq) (fun q3 _ h => ?_)
    refine AW_case h (fun hc h => ?_) (fun _ h => by cases h)
    exact AW_aret dX2_made_61 rfl hc h
  refine AW_case h (fun e1_5 h => ?_) (fun e1_5 h => ?_)
  · refine AW_tabIn (c := 5) (off := 61) (tgt := 62) dX2_made_1 e1_5 (by decide) (by decide) (by decide) (by decide) ?_
    refine AW_case h (fun hc h => ?_) (fun _ h => by cases h)
    refine AW_new (ci := 7) (N := 2) (C := RX8) (T := TX8) (ty0 := tyX8) (fs := [.int 0, .int 0]) dX2_made_62 rfl (gT_u tU_X8) tyX8_ok (List.mem_cons_of_mem _ tC_X2_71) (List.mem_cons_of_mem _ tIns_X8) (List.mem_cons_of_mem _ tIni_X8) (by decide) (fun _ => rfl) hc h (fun h => ?_)
    refine AW_dup dX2_made_65 (g_cat_rf _) ?_
    refine AW_iload_n dX2_made_66 rfl ?_
    refine AW_iload_n dX2_made_67 rfl ?_
    refine AW_case h (fun hc h => ?_) (fun _ h => by cases h)
    refine AW_callIu (y := yX8_init) (cc := cX8_init) (n := 3) (d := 3) (mc := 0) (ms := 0) (np := 2) (As := [.int x1, .int x2]) (st := [va_rf (some A.length)]) dX2_made_68 gT_s tM_X2_73 tI_X8_init tIni_X8 tY_X8_init rfl (by decide +kernel) ⟨by decide, by decide⟩ hc (Nat.le_of_ble_eq_true rfl) rfl h (fun q hq => c_X8_init N _ _ _ _ q hq) (fun q4 _ h => ?_)
    refine AW_case h (fun hc h => ?_) (fun _ h => by cases h)
    exact AW_aret dX2_made_71 rfl hc h
  refine AW_tabOut (tgt := 72) dX2_made_1 (by have a2 := i32_ne e1_2; have b2 : (2 : Int32).toInt = 2 := (by decide); have a3 := i32_ne e1_3; have b3 : (3 : Int32).toInt = 3 := (by decide); have a4 := i32_ne e1_4; have b4 : (4 : Int32).toInt = 4 := (by decide); have a5 := i32_ne e1_5; have b5 : (5 : Int32).toInt = 5 := (by decide); omega) (by decide) ?_
  refine AW_case h (fun hc h => ?_) (fun _ h => by cases h)
  refine AW_new (ci := 4) (N := 2) (C := RX4) (T := TX4) (ty0 := tyX4) (fs := [.int 0, .int 0]) dX2_made_72 rfl (gT_u tU_X4) tyX4_ok (List.mem_cons_of_mem _ tC_X2_74) (List.mem_cons_of_mem _ tIns_X4) (List.mem_cons_of_mem _ tIni_X4) (by decide) (fun _ => rfl) hc h (fun h => ?_)
  refine AW_dup dX2_made_75 (g_cat_rf _) ?_
  refine AW_iload_n dX2_made_76 rfl ?_
  refine AW_iload_n dX2_made_77 rfl ?_
  refine AW_case h (fun hc h => ?_) (fun _ h => by cases h)
  refine AW_callIu (y := yX4_init) (cc := cX4_init) (n := 3) (d := 2) (mc := 0) (ms := 0) (np := 2) (As := [.int x1, .int x2]) (st := [va_rf (some A.length)]) dX2_made_78 gT_s tM_X2_76 tI_X4_init tIni_X4 tY_X4_init rfl (by decide +kernel) ⟨by decide, by decide⟩ hc (Nat.le_of_ble_eq_true rfl) rfl h (fun q hq => c_X4_init N _ _ _ _ q hq) (fun q5 _ h => ?_)
  refine AW_case h (fun hc h => ?_) (fun _ h => by cases h)
  exact AW_aret dX2_made_81 rfl hc h
def f_X2_made (N : Nat) (A : hP) (x0 : Int32) (x1 : Int32) (x2 : Int32) : Option (Option Nat × hP) := f_X2_made_0 N A 0 0 x0 x1 x2
set_option maxRecDepth 20000 in
theorem c_X2_made {l : Launch} (N : Nat) (A : hP) (x0 : Int32) (x1 : Int32) (x2 : Int32) (res : Option Nat × hP) (h : f_X2_made N A x0 x1 x2 = some res) : Ct l mX2_made 4 1 2 A [.int x0, .int x1, .int x2] (gr res) := Ct.of (lv := [(0, .int x0), (1, .int x1), (2, .int x2)]) (ls := [some (.int x0), some (.int x1), some (.int x2)]) (by decide) (by simp [lv_args, g_cat_rf, cat_i, cat_l]) rfl (by simp [g_cat_rf, cat_i, cat_l]) (fun G => (t_X2_made_0 N A 0 0 x0 x1 x2 res h))
abbrev mX2_makeThings : gM := gMk yX2_makeThings cX2_makeThings 2 none
def f_X2_makeThings_2 (N : Nat) : Nat → hP → Nat → Nat → Option Nat → Int32 → Option (Unit × hP)
  | 0, _, _, _, _, _ => none
  | n + 1, A, cs, ss, x0, x1 => (oI A x0 2 4).bind fun v1 => if v1 ≤ x1 then (if cs ≤ 4 ∧ ss ≤ 8 then (some ((), A)) else none) else ((oR A x0 2 9).bind fun v2 => (oR A x0 2 7).bind fun v3 => (oA A v3 0 x1).bind fun v4 => (oR A x0 2 8).bind fun v5 => (oA A v5 0 x1).bind fun v6 => if cs + 1 ≤ 4 ∧ ss + 2 ≤ 8 then ((f_X2_made N A v4 x1 v6).bind fun q7 => if okThing q7.2 q7.1 = true then (oU q7.2 v2 5 x1 q7.1).bind fun A8 => f_X2_makeThings_2 N n A8 (cs + 1) (ss + 2) x0 (x1 + (1 : Int32)) else none) else none)
set_option maxRecDepth 20000 in
set_option maxHeartbeats 4000000 in
theorem t_X2_makeThings_2 {l : Launch} {G : gS} (N : Nat) : ∀ (n : Nat) (A : hP) (cs ss : Nat) (x0 : Option Nat) (x1 : Int32) (res : Unit × hP), f_X2_makeThings_2 N n A cs ss x0 x1 = some res → AW l mX2_makeThings (g_rm 5 4 8) G (g_Qf G (gu res) 4 8) A cs ss 2 [some (va_rf x0), some (.int x1)] [] := by
  intro n
  induction n with
  | zero => intro A cs ss x0 x1 res h; cases h
  | succ n ih =>
    intro A cs ss x0 x1 res h
    rw [f_X2_makeThings_2] at h
    refine AW_iload_n dX2_makeThings_2 rfl ?_
    refine AW_aload_n dX2_makeThings_3 rfl ?_
    refine AW_getI (ci := 2) (k0 := 4) (C := RX2) (T := TX2) (N := 11) dX2_makeThings_4 rfl (gT_u tU_X2) (by decide) (List.mem_cons_of_mem _ tF_X2_27) h (fun v1 _ h => ?_)
    refine AW_icmp_ge (tgt := 38) dX2_makeThings_7 (by decide) h (fun _ h => ?_) (fun _ h => ?_)
    · refine AW_case h (fun hc h => ?_) (fun _ h => by cases h)
      exact AW_vret dX2_makeThings_38 rfl hc h
    · refine AW_aload_n dX2_makeThings_10 rfl ?_
      refine AW_getR (ci := 2) (k0 := 9) (C := RX2) (T := TX2) (N := 11) dX2_makeThings_11 rfl (gT_u tU_X2) (by decide) (List.mem_cons_of_mem _ tF_X2_20) h (fun v2 _ h => ?_)
      refine AW_iload_n dX2_makeThings_14 rfl ?_
      refine AW_aload_n dX2_makeThings_15 rfl ?_
      refine AW_getR (ci := 2) (k0 := 7) (C := RX2) (T := TX2) (N := 11) dX2_makeThings_16 rfl (gT_u tU_X2) (by decide) (List.mem_cons_of_mem _ tF_X2_9) h (fun v3 _ h => ?_)
      refine AW_iload_n dX2_makeThings_19 rfl ?_
      refine AW_iald dX2_makeThings_20 h (fun v4 _ h => ?_)
      refine AW_iload_n dX2_makeThings_21 rfl ?_
      refine AW_aload_n dX2_makeThings_22 rfl ?_
      refine AW_getR (ci := 2) (k0 := 8) (C := RX2) (T := TX2) (N := 11) dX2_makeThings_23 rfl (gT_u tU_X2) (by decide) (List.mem_cons_of_mem _ tF_X2_15) h (fun v5 _ h => ?_)
      refine AW_iload_n dX2_makeThings_26 rfl ?_
      refine AW_iald dX2_makeThings_27 h (fun v6 _ h => ?_)
      refine AW_case h (fun hc h => ?_) (fun _ h => by cases h)
      refine AW_callSr (y := yX2_made) (cc := cX2_made) (n := 3) (d := 4) (mc := 1) (ms := 2) (np := 3) (ret := (some (.object "YesterdayScale$Thing"))) (As := [.int v4, .int x1, .int v6]) (st := [.int x1, va_rf v2]) dX2_makeThings_28 gT_s tM_X2_58 tS_X2_made tIni_X2 tY_X2_made (by decide +kernel) ⟨by decide, by decide⟩ hc (Nat.le_of_ble_eq_true rfl) rfl h (fun q hq => c_X2_made N _ _ _ _ q hq) (fun q7 _ h => ?_)
      refine AW_case h (fun hok h => ?_) (fun _ h => by cases h)
      refine AW_aast (C := "YesterdayScale$Thing") (fun _ => rfl) dX2_makeThings_31 (okThing_s hok) h (fun A8 _ h => ?_)
      refine AW_iinc (v := 1) (ls' := [some (va_rf x0), some (.int (x1 + (1 : Int32)))]) dX2_makeThings_32 rfl (c1_r rfl) (by decide) (by decide) rfl ?_
      refine AW_goto (tgt := 2) dX2_makeThings_35 (by decide) ?_
      exact (ih _ _ _ _ _ _ h)
def f_X2_makeThings_0 (N : Nat) (A : hP) (cs ss : Nat) (x0 : Option Nat) : Option (Unit × hP) := f_X2_makeThings_2 N N A cs ss x0 (0 : Int32)
set_option maxRecDepth 20000 in
set_option maxHeartbeats 4000000 in
theorem t_X2_makeThings_0 {l : Launch} {G : gS} (N : Nat) (A : hP) (cs ss : Nat) (x0 : Option Nat) (res : Unit × hP) (h : f_X2_makeThings_0 N A cs ss x0 = some res) : AW l mX2_makeThings (g_rm 5 4 8) G (g_Qf G (gu res) 4 8) A cs ss 0 [some (va_rf x0), none] [] := by
  unfold f_X2_makeThings_0 at h
  refine AW_iconst (v := 0) dX2_makeThings_0 (by decide) ?_
  refine AW_istore_n (ls' := [some (va_rf x0), some (.int (0 : Int32))]) dX2_makeThings_1 (c1_r rfl) (by decide) rfl ?_
  exact (t_X2_makeThings_2 N N _ _ _ _ _ _ h)
def f_X2_makeThings (N : Nat) (A : hP) (x0 : Option Nat) : Option (Unit × hP) := f_X2_makeThings_0 N A 0 0 x0
set_option maxRecDepth 20000 in
theorem c_X2_makeThings {l : Launch} (N : Nat) (A : hP) (x0 : Option Nat) (res : Unit × hP) (h : f_X2_makeThings N A x0 = some res) : Ct l mX2_makeThings 5 4 8 A [va_rf x0] (gu res) := Ct.of (lv := [(0, va_rf x0)]) (ls := [some (va_rf x0), none]) (by decide) (by simp [lv_args, g_cat_rf, cat_i, cat_l]) rfl (by simp [g_cat_rf, cat_i, cat_l]) (fun G => (t_X2_makeThings_0 N A 0 0 x0 res h))
abbrev mX2_become : gM := gMk yX2_become cX2_become 3 none
def f_X2_become_58 (N : Nat) : Nat → hP → Option Nat → Option Nat → Int32 → Option (Unit × hP)
  | 0, _, _, _, _ => none
  | n + 1, A, x0, x1, x2 => if (4 : Int32) ≤ x2 then ((oR A x1 2 10).bind fun v1 => (oR A x0 2 10).bind fun v2 => (oR A x0 2 10).bind fun v3 => (oN A v3 0).bind fun v4 => (oK A v1 (0 : Int32) v2 (0 : Int32) v4).bind fun A5 => some ((), A5)) else ((oR A x0 2 7).bind fun v6 => (oR A x1 2 7).bind fun v7 => (oA A v7 0 x2).bind fun v8 => (oS A v6 0 x2 v8).bind fun A9 => (oR A9 x0 2 8).bind fun v10 => (oR A9 x1 2 8).bind fun v11 => (oA A9 v11 0 x2).bind fun v12 => (oS A9 v10 0 x2 v12).bind fun A13 => (oR A13 x0 2 9).bind fun v14 => (oR A13 x1 2 9).bind fun v15 => (oQ A13 v15 5 x2).bind fun v16 => if okThing A13 v16 = true then (oU A13 v14 5 x2 v16).bind fun A17 => f_X2_become_58 N n A17 x0 x1 (x2 + (1 : Int32)) else none)
set_option maxRecDepth 20000 in
set_option maxHeartbeats 4000000 in
theorem t_X2_become_58 {l : Launch} {G : gS} (N : Nat) : ∀ (n : Nat) (A : hP) (x0 : Option Nat) (x1 : Option Nat) (x2 : Int32) (res : Unit × hP), f_X2_become_58 N n A x0 x1 x2 = some res → AW l mX2_become (g_rm 1 0 0) G (g_Qf G (gu res) 0 0) A 0 0 58 [some (va_rf x0), some (va_rf x1), some (.int x2)] [] := by
  intro n
  induction n with
  | zero => intro A x0 x1 x2 res h; cases h
  | succ n ih =>
    intro A x0 x1 x2 res h
    rw [f_X2_become_58] at h
    refine AW_iload_n dX2_become_58 rfl ?_
    refine AW_iconst (v := 4) dX2_become_59 (by decide) ?_
    refine AW_icmp_ge (tgt := 105) dX2_become_60 (by decide) h (fun _ h => ?_) (fun _ h => ?_)
    · refine AW_aload_n dX2_become_105 rfl ?_
      refine AW_getR (ci := 2) (k0 := 10) (C := RX2) (T := TX2) (N := 11) dX2_become_106 rfl (gT_u tU_X2) (by decide) (List.mem_cons_of_mem _ tF_X2_24) h (fun v1 _ h => ?_)
      refine AW_iconst (v := 0) dX2_become_109 (by decide) ?_
      refine AW_aload_n dX2_become_110 rfl ?_
      refine AW_getR (ci := 2) (k0 := 10) (C := RX2) (T := TX2) (N := 11) dX2_become_111 rfl (gT_u tU_X2) (by decide) (List.mem_cons_of_mem _ tF_X2_24) h (fun v2 _ h => ?_)
      refine AW_iconst (v := 0) dX2_become_114 (by decide) ?_
      refine AW_aload_n dX2_become_115 rfl ?_
      refine AW_getR (ci := 2) (k0 := 10) (C := RX2) (T := TX2) (N := 11) dX2_become_116 rfl (gT_u tU_X2) (by decide) (List.mem_cons_of_mem _ tF_X2_24) h (fun v3 _ h => ?_)
      refine AW_alen (t := 0) (by decide) dX2_become_119 h (fun v4 _ h => ?_)
      refine AW_acopy dX2_become_120 gT_s tM_X2_50 tNat_acopy tS_acopy tIni_J10 ⟨by decide, by decide⟩ (Nat.le_of_ble_eq_true rfl) h (fun A5 _ h => ?_)
      exact AW_vret dX2_become_123 rfl ⟨Nat.zero_le _, Nat.zero_le _⟩ h
    · refine AW_aload_n dX2_become_63 rfl ?_
      refine AW_getR (ci := 2) (k0 := 7) (C := RX2) (T := TX2) (N := 11) dX2_become_64 rfl (gT_u tU_X2) (by decide) (List.mem_cons_of_mem _ tF_X2_9) h (fun v6 _ h => ?_)
      refine AW_iload_n dX2_become_67 rfl ?_
      refine AW_aload_n dX2_become_68 rfl ?_
      refine AW_getR (ci := 2) (k0 := 7) (C := RX2) (T := TX2) (N := 11) dX2_become_69 rfl (gT_u tU_X2) (by decide) (List.mem_cons_of_mem _ tF_X2_9) h (fun v7 _ h => ?_)
      refine AW_iload_n dX2_become_72 rfl ?_
      refine AW_iald dX2_become_73 h (fun v8 _ h => ?_)
      refine AW_iast dX2_become_74 h (fun A9 _ h => ?_)
      refine AW_aload_n dX2_become_75 rfl ?_
      refine AW_getR (ci := 2) (k0 := 8) (C := RX2) (T := TX2) (N := 11) dX2_become_76 rfl (gT_u tU_X2) (by decide) (List.mem_cons_of_mem _ tF_X2_15) h (fun v10 _ h => ?_)
      refine AW_iload_n dX2_become_79 rfl ?_
      refine AW_aload_n dX2_become_80 rfl ?_
      refine AW_getR (ci := 2) (k0 := 8) (C := RX2) (T := TX2) (N := 11) dX2_become_81 rfl (gT_u tU_X2) (by decide) (List.mem_cons_of_mem _ tF_X2_15) h (fun v11 _ h => ?_)
      refine AW_iload_n dX2_become_84 rfl ?_
      refine AW_iald dX2_become_85 h (fun v12 _ h => ?_)
      refine AW_iast dX2_become_86 h (fun A13 _ h => ?_)
      refine AW_aload_n dX2_become_87 rfl ?_
      refine AW_getR (ci := 2) (k0 := 9) (C := RX2) (T := TX2) (N := 11) dX2_become_88 rfl (gT_u tU_X2) (by decide) (List.mem_cons_of_mem _ tF_X2_20) h (fun v14 _ h => ?_)
      refine AW_iload_n dX2_become_91 rfl ?_
      refine AW_aload_n dX2_become_92 rfl ?_
      refine AW_getR (ci := 2) (k0 := 9) (C := RX2) (T := TX2) (N := 11) dX2_become_93 rfl (gT_u tU_X2) (by decide) (List.mem_cons_of_mem _ tF_X2_20) h (fun v15 _ h => ?_)
      refine AW_iload_n dX2_become_96 rfl ?_
      refine AW_aald (fun _ => rfl) dX2_become_97 h (fun v16 _ h => ?_)
      refine AW_case h (fun hok h => ?_) (fun _ h => by cases h)
      refine AW_aast (C := "YesterdayScale$Thing") (fun _ => rfl) dX2_become_98 (okThing_s hok) h (fun A17 _ h => ?_)
      refine AW_iinc (v := 1) (ls' := [some (va_rf x0), some (va_rf x1), some (.int (x2 + (1 : Int32)))]) dX2_become_99 rfl (c1_r rfl) (by decide) (by decide) rfl ?_
      refine AW_goto (tgt := 58) dX2_become_102 (by decide) ?_
      exact (ih _ _ _ _ _ h)
def f_X2_become_0 (N : Nat) (A : hP) (x0 : Option Nat) (x1 : Option Nat) : Option (Unit × hP) := (oI A x1 2 0).bind fun v18 => (oPz A x0 2 0 v18).bind fun A19 => (oI A19 x1 2 1).bind fun v20 => (oP A19 x0 2 1 (.int v20)).bind fun A21 => (oI A21 x1 2 2).bind fun v22 => (oP A21 x0 2 2 (.int v22)).bind fun A23 => (oI A23 x1 2 3).bind fun v24 => (oP A23 x0 2 3 (.int v24)).bind fun A25 => (oI A25 x1 2 4).bind fun v26 => (oP A25 x0 2 4 (.int v26)).bind fun A27 => (oI A27 x1 2 5).bind fun v28 => (oP A27 x0 2 5 (.int v28)).bind fun A29 => (oI A29 x1 2 6).bind fun v30 => (oP A29 x0 2 6 (.int v30)).bind fun A31 => f_X2_become_58 N N A31 x0 x1 (0 : Int32)
set_option maxRecDepth 20000 in
set_option maxHeartbeats 4000000 in
theorem t_X2_become_0 {l : Launch} {G : gS} (N : Nat) (A : hP) (x0 : Option Nat) (x1 : Option Nat) (res : Unit × hP) (h : f_X2_become_0 N A x0 x1 = some res) : AW l mX2_become (g_rm 1 0 0) G (g_Qf G (gu res) 0 0) A 0 0 0 [some (va_rf x0), some (va_rf x1), none] [] := by
  unfold f_X2_become_0 at h
  refine AW_aload_n dX2_become_0 rfl ?_
  refine AW_aload_n dX2_become_1 rfl ?_
  refine AW_getI (ci := 2) (k0 := 0) (C := RX2) (T := TX2) (N := 11) dX2_become_2 rfl (gT_u tU_X2) (by decide) (List.mem_cons_of_mem _ tF_X2_37) h (fun v18 _ h => ?_)
  refine AW_putZ (ci := 2) (k0 := 0) (C := RX2) (T := TX2) (N := 11) (ty0 := tyX2) dX2_become_5 rfl (gT_u tU_X2) tyX2_ok nmX2 (by decide) (List.mem_cons_of_mem _ tF_X2_37) rfl rfl h (fun A19 _ h => ?_)
  refine AW_aload_n dX2_become_8 rfl ?_
  refine AW_aload_n dX2_become_9 rfl ?_
  refine AW_getI (ci := 2) (k0 := 1) (C := RX2) (T := TX2) (N := 11) dX2_become_10 rfl (gT_u tU_X2) (by decide) (List.mem_cons_of_mem _ tF_X2_41) h (fun v20 _ h => ?_)
  refine AW_put (ci := 2) (k0 := 1) (C := RX2) (T := TX2) (N := 11) (ty0 := tyX2) dX2_become_13 rfl (gT_u tU_X2) tyX2_ok nmX2 (by decide) (List.mem_cons_of_mem _ tF_X2_41) (Or.inl rfl) rfl rfl h (fun A21 _ h => ?_)
  refine AW_aload_n dX2_become_16 rfl ?_
  refine AW_aload_n dX2_become_17 rfl ?_
  refine AW_getI (ci := 2) (k0 := 2) (C := RX2) (T := TX2) (N := 11) dX2_become_18 rfl (gT_u tU_X2) (by decide) (List.mem_cons_of_mem _ tF_X2_44) h (fun v22 _ h => ?_)
  refine AW_put (ci := 2) (k0 := 2) (C := RX2) (T := TX2) (N := 11) (ty0 := tyX2) dX2_become_21 rfl (gT_u tU_X2) tyX2_ok nmX2 (by decide) (List.mem_cons_of_mem _ tF_X2_44) (Or.inl rfl) rfl rfl h (fun A23 _ h => ?_)
  refine AW_aload_n dX2_become_24 rfl ?_
  refine AW_aload_n dX2_become_25 rfl ?_
  refine AW_getI (ci := 2) (k0 := 3) (C := RX2) (T := TX2) (N := 11) dX2_become_26 rfl (gT_u tU_X2) (by decide) (List.mem_cons_of_mem _ tF_X2_47) h (fun v24 _ h => ?_)
  refine AW_put (ci := 2) (k0 := 3) (C := RX2) (T := TX2) (N := 11) (ty0 := tyX2) dX2_become_29 rfl (gT_u tU_X2) tyX2_ok nmX2 (by decide) (List.mem_cons_of_mem _ tF_X2_47) (Or.inl rfl) rfl rfl h (fun A25 _ h => ?_)
  refine AW_aload_n dX2_become_32 rfl ?_
  refine AW_aload_n dX2_become_33 rfl ?_
  refine AW_getI (ci := 2) (k0 := 4) (C := RX2) (T := TX2) (N := 11) dX2_become_34 rfl (gT_u tU_X2) (by decide) (List.mem_cons_of_mem _ tF_X2_27) h (fun v26 _ h => ?_)
  refine AW_put (ci := 2) (k0 := 4) (C := RX2) (T := TX2) (N := 11) (ty0 := tyX2) dX2_become_37 rfl (gT_u tU_X2) tyX2_ok nmX2 (by decide) (List.mem_cons_of_mem _ tF_X2_27) (Or.inl rfl) rfl rfl h (fun A27 _ h => ?_)
  refine AW_aload_n dX2_become_40 rfl ?_
  refine AW_aload_n dX2_become_41 rfl ?_
  refine AW_getI (ci := 2) (k0 := 5) (C := RX2) (T := TX2) (N := 11) dX2_become_42 rfl (gT_u tU_X2) (by decide) (List.mem_cons_of_mem _ tF_X2_31) h (fun v28 _ h => ?_)
  refine AW_put (ci := 2) (k0 := 5) (C := RX2) (T := TX2) (N := 11) (ty0 := tyX2) dX2_become_45 rfl (gT_u tU_X2) tyX2_ok nmX2 (by decide) (List.mem_cons_of_mem _ tF_X2_31) (Or.inl rfl) rfl rfl h (fun A29 _ h => ?_)
  refine AW_aload_n dX2_become_48 rfl ?_
  refine AW_aload_n dX2_become_49 rfl ?_
  refine AW_getI (ci := 2) (k0 := 6) (C := RX2) (T := TX2) (N := 11) dX2_become_50 rfl (gT_u tU_X2) (by decide) (List.mem_cons_of_mem _ tF_X2_34) h (fun v30 _ h => ?_)
  refine AW_put (ci := 2) (k0 := 6) (C := RX2) (T := TX2) (N := 11) (ty0 := tyX2) dX2_become_53 rfl (gT_u tU_X2) tyX2_ok nmX2 (by decide) (List.mem_cons_of_mem _ tF_X2_34) (Or.inl rfl) rfl rfl h (fun A31 _ h => ?_)
  refine AW_iconst (v := 0) dX2_become_56 (by decide) ?_
  refine AW_istore_n (ls' := [some (va_rf x0), some (va_rf x1), some (.int (0 : Int32))]) dX2_become_57 (c1_r rfl) (by decide) rfl ?_
  exact (t_X2_become_58 N N _ _ _ _ _ h)
def f_X2_become (N : Nat) (A : hP) (x0 : Option Nat) (x1 : Option Nat) : Option (Unit × hP) := f_X2_become_0 N A x0 x1
set_option maxRecDepth 20000 in
theorem c_X2_become {l : Launch} (N : Nat) (A : hP) (x0 : Option Nat) (x1 : Option Nat) (res : Unit × hP) (h : f_X2_become N A x0 x1 = some res) : Ct l mX2_become 1 0 0 A [va_rf x0, va_rf x1] (gu res) := Ct.of (lv := [(0, va_rf x0), (1, va_rf x1)]) (ls := [some (va_rf x0), some (va_rf x1), none]) (by decide) (by simp [lv_args, g_cat_rf, cat_i, cat_l]) rfl (by simp [g_cat_rf, cat_i, cat_l]) (fun G => (t_X2_become_0 N A x0 x1 res h))
abbrev mX2_canLay : gM := gMk yX2_canLay cX2_canLay 2 (some .boolean)
def f_X2_canLay_17 (N : Nat) (A : hP) (s0 : Int32) : Option (Int32 × hP) := if s0 = 0 ∨ s0 = 1 then some (s0, A) else none
set_option maxRecDepth 20000 in
set_option maxHeartbeats 4000000 in
theorem t_X2_canLay_17 {l : Launch} {G : gS} (N : Nat) (A : hP) (s0 : Int32) (res : Int32 × hP) (h : f_X2_canLay_17 N A s0 = some res) : AW l mX2_canLay (g_rm 1 0 0) G (g_Qf G (gi res) 0 0) A 0 0 17 [none, none] [.int s0] := by
  unfold f_X2_canLay_17 at h
  exact AW_zret dX2_canLay_17 rfl ⟨Nat.zero_le _, Nat.zero_le _⟩ h
def f_X2_canLay_16 (N : Nat) (A : hP) : Option (Int32 × hP) := f_X2_canLay_17 N A (0 : Int32)
set_option maxRecDepth 20000 in
set_option maxHeartbeats 4000000 in
theorem t_X2_canLay_16 {l : Launch} {G : gS} (N : Nat) (A : hP) (res : Int32 × hP) (h : f_X2_canLay_16 N A  = some res) : AW l mX2_canLay (g_rm 1 0 0) G (g_Qf G (gi res) 0 0) A 0 0 16 [none, none] [] := by
  unfold f_X2_canLay_16 at h
  refine AW_iconst (v := 0) dX2_canLay_16 (by decide) ?_
  exact (t_X2_canLay_17 N _ _ _ h)
def f_X2_canLay_0 (N : Nat) (A : hP) (x0 : Option Nat) (x1 : Int32) : Option (Int32 × hP) := if x1 < (0) then (f_X2_canLay_16 N A) else ((oCk A x0 2).bind fun _ => (f_X2_allThings N A x0).bind fun q1 => if q1.1 < x1 then (f_X2_canLay_16 N q1.2) else (f_X2_canLay_17 N q1.2 (1 : Int32)))
set_option maxRecDepth 20000 in
set_option maxHeartbeats 4000000 in
theorem t_X2_canLay_0 {l : Launch} {G : gS} (N : Nat) (A : hP) (x0 : Option Nat) (x1 : Int32) (res : Int32 × hP) (h : f_X2_canLay_0 N A x0 x1 = some res) : AW l mX2_canLay (g_rm 1 0 0) G (g_Qf G (gi res) 0 0) A 0 0 0 [some (va_rf x0), some (.int x1)] [] := by
  unfold f_X2_canLay_0 at h
  refine AW_iload_n dX2_canLay_0 rfl ?_
  refine AW_if_lt (tgt := 16) dX2_canLay_1 (by decide) h (fun _ h => ?_) (fun _ h => ?_)
  · exact AW_fewer (fw_d (fw_d fw_n)) (t_X2_canLay_16 N _ _ h)
  · refine AW_iload_n dX2_canLay_4 rfl ?_
    refine AW_aload_n dX2_canLay_5 rfl ?_
    refine AW_callVi (y := yX2_allThings) (cc := cX2_allThings) (n := 1) (d := 0) (mc := 0) (ms := 0) (np := 0) (ret := (some .int)) (As := []) (st := [.int x1]) (ci := 2) dX2_canLay_6 gT_s rfl tM_X2_77 tI_X2_allThings tSel_X2_X2_X2_allThings tIni_X2 tY_X2_allThings (by decide +kernel) ⟨by decide, by decide⟩ ⟨by decide, by decide⟩ (Nat.le_of_ble_eq_true rfl) rfl h (fun q hq => c_X2_allThings N _ _ q hq) (fun q1 _ h => ?_)
    refine AW_icmp_gt (tgt := 16) dX2_canLay_9 (by decide) h (fun _ h => ?_) (fun _ h => ?_)
    · exact AW_fewer (fw_d (fw_d fw_n)) (t_X2_canLay_16 N _ _ h)
    · refine AW_iconst (v := 1) dX2_canLay_12 (by decide) ?_
      refine AW_goto (tgt := 17) dX2_canLay_13 (by decide) ?_
      exact AW_fewer (fw_d (fw_d fw_n)) (t_X2_canLay_17 N _ _ _ h)
def f_X2_canLay (N : Nat) (A : hP) (x0 : Option Nat) (x1 : Int32) : Option (Int32 × hP) := f_X2_canLay_0 N A x0 x1
set_option maxRecDepth 20000 in
theorem c_X2_canLay {l : Launch} (N : Nat) (A : hP) (x0 : Option Nat) (x1 : Int32) (res : Int32 × hP) (h : f_X2_canLay N A x0 x1 = some res) : Ct l mX2_canLay 1 0 0 A [va_rf x0, .int x1] (gi res) := Ct.of (lv := [(0, va_rf x0), (1, .int x1)]) (ls := [some (va_rf x0), some (.int x1)]) (by decide) (by simp [lv_args, g_cat_rf, cat_i, cat_l]) rfl (by simp [g_cat_rf, cat_i, cat_l]) (fun G => (t_X2_canLay_0 N A x0 x1 res h))
abbrev mX2_isFresh : gM := gMk yX2_isFresh cX2_isFresh 2 (some .boolean)
def f_X2_isFresh_19 (N : Nat) (A : hP) (s0 : Int32) : Option (Int32 × hP) := if s0 = 0 ∨ s0 = 1 then some (s0, A) else none
set_option maxRecDepth 20000 in
set_option maxHeartbeats 4000000 in
theorem t_X2_isFresh_19 {l : Launch} {G : gS} (N : Nat) (A : hP) (s0 : Int32) (res : Int32 × hP) (h : f_X2_isFresh_19 N A s0 = some res) : AW l mX2_isFresh (g_rm 0 0 0) G (g_Qf G (gi res) 0 0) A 0 0 19 [none, none] [.int s0] := by
  unfold f_X2_isFresh_19 at h
  exact AW_zret dX2_isFresh_19 rfl ⟨Nat.zero_le _, Nat.zero_le _⟩ h
def f_X2_isFresh_0 (N : Nat) (A : hP) (x0 : Option Nat) (x1 : Int32) : Option (Int32 × hP) := (oR A x0 2 10).bind fun v1 => (oA A v1 0 x1).bind fun v2 => (oI A x0 2 6).bind fun v3 => if (v2 &&& v3) = (0) then (f_X2_isFresh_19 N A (0 : Int32)) else (f_X2_isFresh_19 N A (1 : Int32))
set_option maxRecDepth 20000 in
set_option maxHeartbeats 4000000 in
theorem t_X2_isFresh_0 {l : Launch} {G : gS} (N : Nat) (A : hP) (x0 : Option Nat) (x1 : Int32) (res : Int32 × hP) (h : f_X2_isFresh_0 N A x0 x1 = some res) : AW l mX2_isFresh (g_rm 0 0 0) G (g_Qf G (gi res) 0 0) A 0 0 0 [some (va_rf x0), some (.int x1)] [] := by
  unfold f_X2_isFresh_0 at h
  refine AW_aload_n dX2_isFresh_0 rfl ?_
  refine AW_getR (ci := 2) (k0 := 10) (C := RX2) (T := TX2) (N := 11) dX2_isFresh_1 rfl (gT_u tU_X2) (by decide) (List.mem_cons_of_mem _ tF_X2_24) h (fun v1 _ h => ?_)
  refine AW_iload_n dX2_isFresh_4 rfl ?_
  refine AW_iald dX2_isFresh_5 h (fun v2 _ h => ?_)
  refine AW_aload_n dX2_isFresh_6 rfl ?_
  refine AW_getI (ci := 2) (k0 := 6) (C := RX2) (T := TX2) (N := 11) dX2_isFresh_7 rfl (gT_u tU_X2) (by decide) (List.mem_cons_of_mem _ tF_X2_34) h (fun v3 _ h => ?_)
  refine AW_iand dX2_isFresh_10 ?_
  refine AW_if_eq (tgt := 18) dX2_isFresh_11 (by decide) h (fun _ h => ?_) (fun _ h => ?_)
  · refine AW_iconst (v := 0) dX2_isFresh_18 (by decide) ?_
    exact AW_fewer (fw_d (fw_d fw_n)) (t_X2_isFresh_19 N _ _ _ h)
  · refine AW_iconst (v := 1) dX2_isFresh_14 (by decide) ?_
    refine AW_goto (tgt := 19) dX2_isFresh_15 (by decide) ?_
    exact AW_fewer (fw_d (fw_d fw_n)) (t_X2_isFresh_19 N _ _ _ h)
def f_X2_isFresh (N : Nat) (A : hP) (x0 : Option Nat) (x1 : Int32) : Option (Int32 × hP) := f_X2_isFresh_0 N A x0 x1
set_option maxRecDepth 20000 in
theorem c_X2_isFresh {l : Launch} (N : Nat) (A : hP) (x0 : Option Nat) (x1 : Int32) (res : Int32 × hP) (h : f_X2_isFresh N A x0 x1 = some res) : Ct l mX2_isFresh 0 0 0 A [va_rf x0, .int x1] (gi res) := Ct.of (lv := [(0, va_rf x0), (1, .int x1)]) (ls := [some (va_rf x0), some (.int x1)]) (by decide) (by simp [lv_args, g_cat_rf, cat_i, cat_l]) rfl (by simp [g_cat_rf, cat_i, cat_l]) (fun G => (t_X2_isFresh_0 N A x0 x1 res h))
abbrev mX2_reachOf : gM := gMk yX2_reachOf cX2_reachOf 4 (some .int)
def f_X2_reachOf_29 (N : Nat) (A : hP) (x3 : Int32) : Option (Int32 × hP) := some (x3, A)
set_option maxRecDepth 20000 in
set_option maxHeartbeats 4000000 in
theorem t_X2_reachOf_29 {l : Launch} {G : gS} (N : Nat) (A : hP) (x3 : Int32) (res : Int32 × hP) (h : f_X2_reachOf_29 N A x3 = some res) : AW l mX2_reachOf (g_rm 1 0 0) G (g_Qf G (gi res) 0 0) A 0 0 29 [none, none, none, some (.int x3)] [] := by
  unfold f_X2_reachOf_29 at h
  refine AW_iload_n dX2_reachOf_29 rfl ?_
  exact AW_iret dX2_reachOf_30 rfl ⟨Nat.zero_le _, Nat.zero_le _⟩ h
def f_X2_reachOf_2 (N : Nat) : Nat → hP → Option Nat → Int32 → Int32 → Int32 → Option (Int32 × hP)
  | 0, _, _, _, _, _ => none
  | n + 1, A, x0, x1, x2, x3 => if x2 ≤ x3 then (f_X2_reachOf_29 N A x3) else (if (x1 - x3) ≤ (0) then (f_X2_reachOf_29 N A x3) else ((oCk A x0 2).bind fun _ => (f_X2_isFresh N A x0 (x1 - x3)).bind fun q1 => if q1.1 = (0) then (f_X2_reachOf_2 N n q1.2 x0 x1 x2 (x3 + (1 : Int32))) else (f_X2_reachOf_29 N q1.2 x3)))
set_option maxRecDepth 20000 in
set_option maxHeartbeats 4000000 in
theorem t_X2_reachOf_2 {l : Launch} {G : gS} (N : Nat) : ∀ (n : Nat) (A : hP) (x0 : Option Nat) (x1 : Int32) (x2 : Int32) (x3 : Int32) (res : Int32 × hP), f_X2_reachOf_2 N n A x0 x1 x2 x3 = some res → AW l mX2_reachOf (g_rm 1 0 0) G (g_Qf G (gi res) 0 0) A 0 0 2 [some (va_rf x0), some (.int x1), some (.int x2), some (.int x3)] [] := by
  intro n
  induction n with
  | zero => intro A x0 x1 x2 x3 res h; cases h
  | succ n ih =>
    intro A x0 x1 x2 x3 res h
    rw [f_X2_reachOf_2] at h
    refine AW_iload_n dX2_reachOf_2 rfl ?_
    refine AW_iload_n dX2_reachOf_3 rfl ?_
    refine AW_icmp_ge (tgt := 29) dX2_reachOf_4 (by decide) h (fun _ h => ?_) (fun _ h => ?_)
    · exact AW_fewer (fw_d (fw_d (fw_d (fw_k fw_n)))) (t_X2_reachOf_29 N _ _ _ h)
    · refine AW_iload_n dX2_reachOf_7 rfl ?_
      refine AW_iload_n dX2_reachOf_8 rfl ?_
      refine AW_isub dX2_reachOf_9 ?_
      refine AW_if_le (tgt := 29) dX2_reachOf_10 (by decide) h (fun _ h => ?_) (fun _ h => ?_)
      · exact AW_fewer (fw_d (fw_d (fw_d (fw_k fw_n)))) (t_X2_reachOf_29 N _ _ _ h)
      · refine AW_aload_n dX2_reachOf_13 rfl ?_
        refine AW_iload_n dX2_reachOf_14 rfl ?_
        refine AW_iload_n dX2_reachOf_15 rfl ?_
        refine AW_isub dX2_reachOf_16 ?_
        refine AW_callVi (y := yX2_isFresh) (cc := cX2_isFresh) (n := 2) (d := 0) (mc := 0) (ms := 0) (np := 1) (ret := (some .boolean)) (As := [.int (x1 - x3)]) (st := []) (ci := 2) dX2_reachOf_17 gT_s rfl tM_X2_92 tI_X2_isFresh tSel_X2_X2_X2_isFresh tIni_X2 tY_X2_isFresh (by decide +kernel) ⟨by decide, by decide⟩ ⟨by decide, by decide⟩ (Nat.le_of_ble_eq_true rfl) rfl h (fun q hq => c_X2_isFresh N _ _ _ q hq) (fun q1 _ h => ?_)
        refine AW_if_ne (tgt := 29) dX2_reachOf_20 (by decide) h (fun _ h => ?_) (fun _ h => ?_)
        · exact AW_fewer (fw_d (fw_d (fw_d (fw_k fw_n)))) (t_X2_reachOf_29 N _ _ _ h)
        · refine AW_iinc (v := 1) (ls' := [some (va_rf x0), some (.int x1), some (.int x2), some (.int (x3 + (1 : Int32)))]) dX2_reachOf_23 rfl (c1_i rfl) (by decide) (by decide) rfl ?_
          refine AW_goto (tgt := 2) dX2_reachOf_26 (by decide) ?_
          exact (ih _ _ _ _ _ _ h)
def f_X2_reachOf_0 (N : Nat) (A : hP) (x0 : Option Nat) (x1 : Int32) (x2 : Int32) : Option (Int32 × hP) := f_X2_reachOf_2 N N A x0 x1 x2 (0 : Int32)
set_option maxRecDepth 20000 in
set_option maxHeartbeats 4000000 in
theorem t_X2_reachOf_0 {l : Launch} {G : gS} (N : Nat) (A : hP) (x0 : Option Nat) (x1 : Int32) (x2 : Int32) (res : Int32 × hP) (h : f_X2_reachOf_0 N A x0 x1 x2 = some res) : AW l mX2_reachOf (g_rm 1 0 0) G (g_Qf G (gi res) 0 0) A 0 0 0 [some (va_rf x0), some (.int x1), some (.int x2), none] [] := by
  unfold f_X2_reachOf_0 at h
  refine AW_iconst (v := 0) dX2_reachOf_0 (by decide) ?_
  refine AW_istore_n (ls' := [some (va_rf x0), some (.int x1), some (.int x2), some (.int (0 : Int32))]) dX2_reachOf_1 (c1_i rfl) (by decide) rfl ?_
  exact (t_X2_reachOf_2 N N _ _ _ _ _ _ h)
def f_X2_reachOf (N : Nat) (A : hP) (x0 : Option Nat) (x1 : Int32) (x2 : Int32) : Option (Int32 × hP) := f_X2_reachOf_0 N A x0 x1 x2
set_option maxRecDepth 20000 in
theorem c_X2_reachOf {l : Launch} (N : Nat) (A : hP) (x0 : Option Nat) (x1 : Int32) (x2 : Int32) (res : Int32 × hP) (h : f_X2_reachOf N A x0 x1 x2 = some res) : Ct l mX2_reachOf 1 0 0 A [va_rf x0, .int x1, .int x2] (gi res) := Ct.of (lv := [(0, va_rf x0), (1, .int x1), (2, .int x2)]) (ls := [some (va_rf x0), some (.int x1), some (.int x2), none]) (by decide) (by simp [lv_args, g_cat_rf, cat_i, cat_l]) rfl (by simp [g_cat_rf, cat_i, cat_l]) (fun G => (t_X2_reachOf_0 N A x0 x1 x2 res h))
abbrev mX2_liesOn : gM := gMk yX2_liesOn cX2_liesOn 3 (some .boolean)
def f_X2_liesOn_18 (N : Nat) (A : hP) (s0 : Int32) : Option (Int32 × hP) := if s0 = 0 ∨ s0 = 1 then some (s0, A) else none
set_option maxRecDepth 20000 in
set_option maxHeartbeats 4000000 in
theorem t_X2_liesOn_18 {l : Launch} {G : gS} (N : Nat) (A : hP) (s0 : Int32) (res : Int32 × hP) (h : f_X2_liesOn_18 N A s0 = some res) : AW l mX2_liesOn (g_rm 0 0 0) G (g_Qf G (gi res) 0 0) A 0 0 18 [none, none, none] [.int s0] := by
  unfold f_X2_liesOn_18 at h
  exact AW_zret dX2_liesOn_18 rfl ⟨Nat.zero_le _, Nat.zero_le _⟩ h
def f_X2_liesOn_0 (N : Nat) (A : hP) (x0 : Option Nat) (x1 : Int32) (x2 : Int32) : Option (Int32 × hP) := (oR A x0 2 10).bind fun v1 => (oA A v1 0 x2).bind fun v2 => if ((v2 >>> (x1 &&& 31)) &&& (1 : Int32)) = (0) then (f_X2_liesOn_18 N A (0 : Int32)) else (f_X2_liesOn_18 N A (1 : Int32))
set_option maxRecDepth 20000 in
set_option maxHeartbeats 4000000 in
theorem t_X2_liesOn_0 {l : Launch} {G : gS} (N : Nat) (A : hP) (x0 : Option Nat) (x1 : Int32) (x2 : Int32) (res : Int32 × hP) (h : f_X2_liesOn_0 N A x0 x1 x2 = some res) : AW l mX2_liesOn (g_rm 0 0 0) G (g_Qf G (gi res) 0 0) A 0 0 0 [some (va_rf x0), some (.int x1), some (.int x2)] [] := by
  unfold f_X2_liesOn_0 at h
  refine AW_aload_n dX2_liesOn_0 rfl ?_
  refine AW_getR (ci := 2) (k0 := 10) (C := RX2) (T := TX2) (N := 11) dX2_liesOn_1 rfl (gT_u tU_X2) (by decide) (List.mem_cons_of_mem _ tF_X2_24) h (fun v1 _ h => ?_)
  refine AW_iload_n dX2_liesOn_4 rfl ?_
  refine AW_iald dX2_liesOn_5 h (fun v2 _ h => ?_)
  refine AW_iload_n dX2_liesOn_6 rfl ?_
  refine AW_ishr dX2_liesOn_7 ?_
  refine AW_iconst (v := 1) dX2_liesOn_8 (by decide) ?_
  refine AW_iand dX2_liesOn_9 ?_
  refine AW_if_eq (tgt := 17) dX2_liesOn_10 (by decide) h (fun _ h => ?_) (fun _ h => ?_)
  · refine AW_iconst (v := 0) dX2_liesOn_17 (by decide) ?_
    exact AW_fewer (fw_d (fw_d (fw_d fw_n))) (t_X2_liesOn_18 N _ _ _ h)
  · refine AW_iconst (v := 1) dX2_liesOn_13 (by decide) ?_
    refine AW_goto (tgt := 18) dX2_liesOn_14 (by decide) ?_
    exact AW_fewer (fw_d (fw_d (fw_d fw_n))) (t_X2_liesOn_18 N _ _ _ h)
def f_X2_liesOn (N : Nat) (A : hP) (x0 : Option Nat) (x1 : Int32) (x2 : Int32) : Option (Int32 × hP) := f_X2_liesOn_0 N A x0 x1 x2
set_option maxRecDepth 20000 in
theorem c_X2_liesOn {l : Launch} (N : Nat) (A : hP) (x0 : Option Nat) (x1 : Int32) (x2 : Int32) (res : Int32 × hP) (h : f_X2_liesOn N A x0 x1 x2 = some res) : Ct l mX2_liesOn 0 0 0 A [va_rf x0, .int x1, .int x2] (gi res) := Ct.of (lv := [(0, va_rf x0), (1, .int x1), (2, .int x2)]) (ls := [some (va_rf x0), some (.int x1), some (.int x2)]) (by decide) (by simp [lv_args, g_cat_rf, cat_i, cat_l]) rfl (by simp [g_cat_rf, cat_i, cat_l]) (fun G => (t_X2_liesOn_0 N A x0 x1 x2 res h))
abbrev mX2_loadOn : gM := gMk yX2_loadOn cX2_loadOn 5 (some .int)
def f_X2_loadOn_48 (N : Nat) (r4 : hP → Option Nat → Int32 → Int32 → Int32 → Option (Int32 × hP)) (A : hP) (x0 : Option Nat) (x1 : Int32) (x2 : Int32) (x3 : Int32) : Option (Int32 × hP) := r4 A x0 x1 x2 (x3 + (1 : Int32))
set_option maxRecDepth 20000 in
set_option maxHeartbeats 4000000 in
theorem t_X2_loadOn_48 {l : Launch} {G : gS} (N : Nat) (r4 : hP → Option Nat → Int32 → Int32 → Int32 → Option (Int32 × hP)) (hr4 : ∀ (A : hP) (x0 : Option Nat) (x1 : Int32) (x2 : Int32) (x3 : Int32) (res : Int32 × hP), r4 A x0 x1 x2 x3 = some res → AW l mX2_loadOn (g_rm 1 0 0) G (g_Qf G (gi res) 0 0) A 0 0 4 [some (va_rf x0), some (.int x1), some (.int x2), some (.int x3), none] []) (A : hP) (x0 : Option Nat) (x1 : Int32) (x2 : Int32) (x3 : Int32) (res : Int32 × hP) (h : f_X2_loadOn_48 N r4 A x0 x1 x2 x3 = some res) : AW l mX2_loadOn (g_rm 1 0 0) G (g_Qf G (gi res) 0 0) A 0 0 48 [some (va_rf x0), some (.int x1), some (.int x2), some (.int x3), none] [] := by
  unfold f_X2_loadOn_48 at h
  refine AW_iinc (v := 1) (ls' := [some (va_rf x0), some (.int x1), some (.int x2), some (.int (x3 + (1 : Int32))), none]) dX2_loadOn_48 rfl (c1_i rfl) (by decide) (by decide) rfl ?_
  refine AW_goto (tgt := 4) dX2_loadOn_51 (by decide) ?_
  exact (hr4 _ _ _ _ _ _ h)
def f_X2_loadOn_4 (N : Nat) : Nat → hP → Option Nat → Int32 → Int32 → Int32 → Option (Int32 × hP)
  | 0, _, _, _, _, _ => none
  | n + 1, A, x0, x1, x2, x3 => (oI A x0 2 4).bind fun v1 => if v1 ≤ x3 then (some (x2, A)) else ((oR A x0 2 9).bind fun v2 => (oQ A v2 5 x3).bind fun v3 => if v3 = none then (f_X2_loadOn_48 N (f_X2_loadOn_4 N n) A x0 x1 x2 x3) else ((oCk A x0 2).bind fun _ => (f_X2_liesOn N A x0 x3 x1).bind fun q4 => if q4.1 = (0) then (f_X2_loadOn_48 N (f_X2_loadOn_4 N n) q4.2 x0 x1 x2 x3) else ((oT q4.2 v3 1).bind fun v5 => (v_X7_heavyWith N q4.2 v3 v5 x1).bind fun q6 => f_X2_loadOn_48 N (f_X2_loadOn_4 N n) q6.2 x0 x1 (x2 + q6.1) x3)))
set_option maxRecDepth 20000 in
set_option maxHeartbeats 4000000 in
theorem t_X2_loadOn_4 {l : Launch} {G : gS} (N : Nat) : ∀ (n : Nat) (A : hP) (x0 : Option Nat) (x1 : Int32) (x2 : Int32) (x3 : Int32) (res : Int32 × hP), f_X2_loadOn_4 N n A x0 x1 x2 x3 = some res → AW l mX2_loadOn (g_rm 1 0 0) G (g_Qf G (gi res) 0 0) A 0 0 4 [some (va_rf x0), some (.int x1), some (.int x2), some (.int x3), none] [] := by
  intro n
  induction n with
  | zero => intro A x0 x1 x2 x3 res h; cases h
  | succ n ih =>
    intro A x0 x1 x2 x3 res h
    rw [f_X2_loadOn_4] at h
    refine AW_iload_n dX2_loadOn_4 rfl ?_
    refine AW_aload_n dX2_loadOn_5 rfl ?_
    refine AW_getI (ci := 2) (k0 := 4) (C := RX2) (T := TX2) (N := 11) dX2_loadOn_6 rfl (gT_u tU_X2) (by decide) (List.mem_cons_of_mem _ tF_X2_27) h (fun v1 _ h => ?_)
    refine AW_icmp_ge (tgt := 54) dX2_loadOn_9 (by decide) h (fun _ h => ?_) (fun _ h => ?_)
    · refine AW_iload_n dX2_loadOn_54 rfl ?_
      exact AW_iret dX2_loadOn_55 rfl ⟨Nat.zero_le _, Nat.zero_le _⟩ h
    · refine AW_aload_n dX2_loadOn_12 rfl ?_
      refine AW_getR (ci := 2) (k0 := 9) (C := RX2) (T := TX2) (N := 11) dX2_loadOn_13 rfl (gT_u tU_X2) (by decide) (List.mem_cons_of_mem _ tF_X2_20) h (fun v2 _ h => ?_)
      refine AW_iload_n dX2_loadOn_16 rfl ?_
      refine AW_aald (fun _ => rfl) dX2_loadOn_17 h (fun v3 _ h => ?_)
      refine AW_astore (ls' := [some (va_rf x0), some (.int x1), some (.int x2), some (.int x3), some (va_rf v3)]) dX2_loadOn_18 (c1_i rfl) (by decide) rfl ?_
      refine AW_aload dX2_loadOn_20 rfl ?_
      refine AW_ifnull (tgt := 48) dX2_loadOn_22 (by decide) h (fun _ h => ?_) (fun _ h => ?_)
      · exact AW_fewer (fw_k (fw_k (fw_k (fw_k (fw_d fw_n))))) (t_X2_loadOn_48 N (f_X2_loadOn_4 N n) ih _ _ _ _ _ _ h)
      · refine AW_aload_n dX2_loadOn_25 rfl ?_
        refine AW_iload_n dX2_loadOn_26 rfl ?_
        refine AW_iload_n dX2_loadOn_27 rfl ?_
        refine AW_callVi (y := yX2_liesOn) (cc := cX2_liesOn) (n := 3) (d := 0) (mc := 0) (ms := 0) (np := 2) (ret := (some .boolean)) (As := [.int x3, .int x1]) (st := []) (ci := 2) dX2_loadOn_28 gT_s rfl tM_X2_81 tI_X2_liesOn tSel_X2_X2_X2_liesOn tIni_X2 tY_X2_liesOn (by decide +kernel) ⟨by decide, by decide⟩ ⟨by decide, by decide⟩ (Nat.le_of_ble_eq_true rfl) rfl h (fun q hq => c_X2_liesOn N _ _ _ _ q hq) (fun q4 _ h => ?_)
        refine AW_if_eq (tgt := 48) dX2_loadOn_31 (by decide) h (fun _ h => ?_) (fun _ h => ?_)
        · exact AW_fewer (fw_k (fw_k (fw_k (fw_k (fw_d fw_n))))) (t_X2_loadOn_48 N (f_X2_loadOn_4 N n) ih _ _ _ _ _ _ h)
        · refine AW_iload_n dX2_loadOn_34 rfl ?_
          refine AW_aload dX2_loadOn_35 rfl ?_
          refine AW_aload dX2_loadOn_37 rfl ?_
          refine AW_getT (nm := "weight") (by decide) gT_s dX2_loadOn_39 (List.mem_cons_of_mem _ tF_X2_85) h (fun v5 _ h => ?_)
          refine AW_iload_n dX2_loadOn_42 rfl ?_
          refine AW_v_X7_heavyWith N dX2_loadOn_43 gT_s tM_X2_88 (by decide) (by decide) (Nat.le_of_ble_eq_true rfl) h (fun q6 h => ?_)
          refine AW_iadd dX2_loadOn_46 ?_
          refine AW_istore_n (ls' := [some (va_rf x0), some (.int x1), some (.int (x2 + q6.1)), some (.int x3), some (va_rf v3)]) dX2_loadOn_47 (c1_i rfl) (by decide) rfl ?_
          exact AW_fewer (fw_k (fw_k (fw_k (fw_k (fw_d fw_n))))) (t_X2_loadOn_48 N (f_X2_loadOn_4 N n) ih _ _ _ _ _ _ h)
def f_X2_loadOn_0 (N : Nat) (A : hP) (x0 : Option Nat) (x1 : Int32) : Option (Int32 × hP) := f_X2_loadOn_4 N N A x0 x1 (0 : Int32) (0 : Int32)
set_option maxRecDepth 20000 in
set_option maxHeartbeats 4000000 in
theorem t_X2_loadOn_0 {l : Launch} {G : gS} (N : Nat) (A : hP) (x0 : Option Nat) (x1 : Int32) (res : Int32 × hP) (h : f_X2_loadOn_0 N A x0 x1 = some res) : AW l mX2_loadOn (g_rm 1 0 0) G (g_Qf G (gi res) 0 0) A 0 0 0 [some (va_rf x0), some (.int x1), none, none, none] [] := by
  unfold f_X2_loadOn_0 at h
  refine AW_iconst (v := 0) dX2_loadOn_0 (by decide) ?_
  refine AW_istore_n (ls' := [some (va_rf x0), some (.int x1), some (.int (0 : Int32)), none, none]) dX2_loadOn_1 (c1_i rfl) (by decide) rfl ?_
  refine AW_iconst (v := 0) dX2_loadOn_2 (by decide) ?_
  refine AW_istore_n (ls' := [some (va_rf x0), some (.int x1), some (.int (0 : Int32)), some (.int (0 : Int32)), none]) dX2_loadOn_3 (c1_i rfl) (by decide) rfl ?_
  exact (t_X2_loadOn_4 N N _ _ _ _ _ _ h)
def f_X2_loadOn (N : Nat) (A : hP) (x0 : Option Nat) (x1 : Int32) : Option (Int32 × hP) := f_X2_loadOn_0 N A x0 x1
set_option maxRecDepth 20000 in
theorem c_X2_loadOn {l : Launch} (N : Nat) (A : hP) (x0 : Option Nat) (x1 : Int32) (res : Int32 × hP) (h : f_X2_loadOn N A x0 x1 = some res) : Ct l mX2_loadOn 1 0 0 A [va_rf x0, .int x1] (gi res) := Ct.of (lv := [(0, va_rf x0), (1, .int x1)]) (ls := [some (va_rf x0), some (.int x1), none, none, none]) (by decide) (by simp [lv_args, g_cat_rf, cat_i, cat_l]) rfl (by simp [g_cat_rf, cat_i, cat_l]) (fun G => (t_X2_loadOn_0 N A x0 x1 res h))
abbrev mX2_leftOver : gM := gMk yX2_leftOver cX2_leftOver 2 (some .int)
def f_X2_leftOver_11 (N : Nat) (A : hP) (s0 : Int32) : Option (Int32 × hP) := some (s0, A)
set_option maxRecDepth 20000 in
set_option maxHeartbeats 4000000 in
theorem t_X2_leftOver_11 {l : Launch} {G : gS} (N : Nat) (A : hP) (s0 : Int32) (res : Int32 × hP) (h : f_X2_leftOver_11 N A s0 = some res) : AW l mX2_leftOver (g_rm 0 0 0) G (g_Qf G (gi res) 0 0) A 0 0 11 [none, none] [.int s0] := by
  unfold f_X2_leftOver_11 at h
  exact AW_iret dX2_leftOver_11 rfl ⟨Nat.zero_le _, Nat.zero_le _⟩ h
def f_X2_leftOver_0 (N : Nat) (A : hP) (x0 : Int32) (x1 : Int32) : Option (Int32 × hP) := if x1 ≤ (0) then (f_X2_leftOver_11 N A x0) else ((oRm x0 x1).bind fun v1 => f_X2_leftOver_11 N A v1)
set_option maxRecDepth 20000 in
set_option maxHeartbeats 4000000 in
theorem t_X2_leftOver_0 {l : Launch} {G : gS} (N : Nat) (A : hP) (x0 : Int32) (x1 : Int32) (res : Int32 × hP) (h : f_X2_leftOver_0 N A x0 x1 = some res) : AW l mX2_leftOver (g_rm 0 0 0) G (g_Qf G (gi res) 0 0) A 0 0 0 [some (.int x0), some (.int x1)] [] := by
  unfold f_X2_leftOver_0 at h
  refine AW_iload_n dX2_leftOver_0 rfl ?_
  refine AW_if_le (tgt := 10) dX2_leftOver_1 (by decide) h (fun _ h => ?_) (fun _ h => ?_)
  · refine AW_iload_n dX2_leftOver_10 rfl ?_
    exact AW_fewer (fw_d (fw_d fw_n)) (t_X2_leftOver_11 N _ _ _ h)
  · refine AW_iload_n dX2_leftOver_4 rfl ?_
    refine AW_iload_n dX2_leftOver_5 rfl ?_
    refine AW_rem dX2_leftOver_6 h (fun v1 _ h => ?_)
    refine AW_goto (tgt := 11) dX2_leftOver_7 (by decide) ?_
    exact AW_fewer (fw_d (fw_d fw_n)) (t_X2_leftOver_11 N _ _ _ h)
def f_X2_leftOver (N : Nat) (A : hP) (x0 : Int32) (x1 : Int32) : Option (Int32 × hP) := f_X2_leftOver_0 N A x0 x1
set_option maxRecDepth 20000 in
theorem c_X2_leftOver {l : Launch} (N : Nat) (A : hP) (x0 : Int32) (x1 : Int32) (res : Int32 × hP) (h : f_X2_leftOver N A x0 x1 = some res) : Ct l mX2_leftOver 0 0 0 A [.int x0, .int x1] (gi res) := Ct.of (lv := [(0, .int x0), (1, .int x1)]) (ls := [some (.int x0), some (.int x1)]) (by decide) (by simp [lv_args, g_cat_rf, cat_i, cat_l]) rfl (by simp [g_cat_rf, cat_i, cat_l]) (fun G => (t_X2_leftOver_0 N A x0 x1 res h))
abbrev mX2_shownBy : gM := gMk yX2_shownBy cX2_shownBy 9 (some .int)
def f_X2_shownBy_43 (N : Nat) (r14 : hP → Option Nat → Int32 → Int32 → Int32 → Int32 → Int32 → Int32 → Option (Int32 × hP)) (A : hP) (x0 : Option Nat) (x1 : Int32) (x3 : Int32) (x4 : Int32) (x5 : Int32) (x6 : Int32) (x7 : Int32) (x8 : Int32) : Option (Int32 × hP) := r14 A x0 x1 x3 x4 (x5 + (x8 >>> ((x7 * x3) &&& 31))) x6 (x7 + (1 : Int32))
set_option maxRecDepth 20000 in
set_option maxHeartbeats 4000000 in
theorem t_X2_shownBy_43 {l : Launch} {G : gS} (N : Nat) (r14 : hP → Option Nat → Int32 → Int32 → Int32 → Int32 → Int32 → Int32 → Option (Int32 × hP)) (hr14 : ∀ (A : hP) (x0 : Option Nat) (x1 : Int32) (x3 : Int32) (x4 : Int32) (x5 : Int32) (x6 : Int32) (x7 : Int32) (res : Int32 × hP), r14 A x0 x1 x3 x4 x5 x6 x7 = some res → AW l mX2_shownBy (g_rm 2 0 0) G (g_Qf G (gi res) 0 0) A 0 0 14 [some (va_rf x0), some (.int x1), none, some (.int x3), some (.int x4), some (.int x5), some (.int x6), some (.int x7), none] []) (A : hP) (x0 : Option Nat) (x1 : Int32) (x3 : Int32) (x4 : Int32) (x5 : Int32) (x6 : Int32) (x7 : Int32) (x8 : Int32) (res : Int32 × hP) (h : f_X2_shownBy_43 N r14 A x0 x1 x3 x4 x5 x6 x7 x8 = some res) : AW l mX2_shownBy (g_rm 2 0 0) G (g_Qf G (gi res) 0 0) A 0 0 43 [some (va_rf x0), some (.int x1), none, some (.int x3), some (.int x4), some (.int x5), some (.int x6), some (.int x7), some (.int x8)] [] := by
  unfold f_X2_shownBy_43 at h
  refine AW_iload dX2_shownBy_43 rfl ?_
  refine AW_iload dX2_shownBy_45 rfl ?_
  refine AW_iload dX2_shownBy_47 rfl ?_
  refine AW_iload_n dX2_shownBy_49 rfl ?_
  refine AW_imul dX2_shownBy_50 ?_
  refine AW_ishr dX2_shownBy_51 ?_
  refine AW_iadd dX2_shownBy_52 ?_
  refine AW_istore (ls' := [some (va_rf x0), some (.int x1), none, some (.int x3), some (.int x4), some (.int (x5 + (x8 >>> ((x7 * x3) &&& 31)))), some (.int x6), some (.int x7), some (.int x8)]) dX2_shownBy_53 (c1_i rfl) (by decide) rfl ?_
  refine AW_iinc (v := 1) (ls' := [some (va_rf x0), some (.int x1), none, some (.int x3), some (.int x4), some (.int (x5 + (x8 >>> ((x7 * x3) &&& 31)))), some (.int x6), some (.int (x7 + (1 : Int32))), some (.int x8)]) dX2_shownBy_55 rfl (c1_i rfl) (by decide) (by decide) rfl ?_
  refine AW_goto (tgt := 14) dX2_shownBy_58 (by decide) ?_
  exact AW_fewer (fw_k (fw_k (fw_k (fw_k (fw_k (fw_k (fw_k (fw_k (fw_d fw_n))))))))) (hr14 _ _ _ _ _ _ _ _ _ h)
def f_X2_shownBy_14 (N : Nat) : Nat → hP → Option Nat → Int32 → Int32 → Int32 → Int32 → Int32 → Int32 → Option (Int32 × hP)
  | 0, _, _, _, _, _, _, _, _ => none
  | n + 1, A, x0, x1, x3, x4, x5, x6, x7 => if x6 < x7 then ((oI A x0 2 3).bind fun v1 => (f_X2_leftOver N A x5 v1).bind fun q2 => some (q2.1, q2.2)) else ((oCk A x0 2).bind fun _ => (f_X2_loadOn N A x0 (x1 - x7)).bind fun q3 => if (x1 - x7) = x4 then (f_X2_shownBy_43 N (f_X2_shownBy_14 N n) q3.2 x0 x1 x3 x4 x5 x6 x7 (q3.1 + (1 : Int32))) else (f_X2_shownBy_43 N (f_X2_shownBy_14 N n) q3.2 x0 x1 x3 x4 x5 x6 x7 q3.1))
set_option maxRecDepth 20000 in
set_option maxHeartbeats 4000000 in
theorem t_X2_shownBy_14 {l : Launch} {G : gS} (N : Nat) : ∀ (n : Nat) (A : hP) (x0 : Option Nat) (x1 : Int32) (x3 : Int32) (x4 : Int32) (x5 : Int32) (x6 : Int32) (x7 : Int32) (res : Int32 × hP), f_X2_shownBy_14 N n A x0 x1 x3 x4 x5 x6 x7 = some res → AW l mX2_shownBy (g_rm 2 0 0) G (g_Qf G (gi res) 0 0) A 0 0 14 [some (va_rf x0), some (.int x1), none, some (.int x3), some (.int x4), some (.int x5), some (.int x6), some (.int x7), none] [] := by
  intro n
  induction n with
  | zero => intro A x0 x1 x3 x4 x5 x6 x7 res h; cases h
  | succ n ih =>
    intro A x0 x1 x3 x4 x5 x6 x7 res h
    rw [f_X2_shownBy_14] at h
    refine AW_iload dX2_shownBy_14 rfl ?_
    refine AW_iload dX2_shownBy_16 rfl ?_
    refine AW_icmp_gt (tgt := 61) dX2_shownBy_18 (by decide) h (fun _ h => ?_) (fun _ h => ?_)
    · refine AW_iload dX2_shownBy_61 rfl ?_
      refine AW_aload_n dX2_shownBy_63 rfl ?_
      refine AW_getI (ci := 2) (k0 := 3) (C := RX2) (T := TX2) (N := 11) dX2_shownBy_64 rfl (gT_u tU_X2) (by decide) (List.mem_cons_of_mem _ tF_X2_47) h (fun v1 _ h => ?_)
      refine AW_callSi (y := yX2_leftOver) (cc := cX2_leftOver) (n := 2) (d := 0) (mc := 0) (ms := 0) (np := 2) (ret := (some .int)) (As := [.int x5, .int v1]) (st := []) dX2_shownBy_67 gT_s tM_X2_107 tS_X2_leftOver tIni_X2 tY_X2_leftOver (by decide +kernel) ⟨by decide, by decide⟩ ⟨by decide, by decide⟩ (Nat.le_of_ble_eq_true rfl) rfl h (fun q hq => c_X2_leftOver N _ _ _ q hq) (fun q2 _ h => ?_)
      exact AW_iret dX2_shownBy_70 rfl ⟨Nat.zero_le _, Nat.zero_le _⟩ h
    · refine AW_aload_n dX2_shownBy_21 rfl ?_
      refine AW_iload_n dX2_shownBy_22 rfl ?_
      refine AW_iload dX2_shownBy_23 rfl ?_
      refine AW_isub dX2_shownBy_25 ?_
      refine AW_callVi (y := yX2_loadOn) (cc := cX2_loadOn) (n := 5) (d := 1) (mc := 0) (ms := 0) (np := 1) (ret := (some .int)) (As := [.int (x1 - x7)]) (st := []) (ci := 2) dX2_shownBy_26 gT_s rfl tM_X2_103 tI_X2_loadOn tSel_X2_X2_X2_loadOn tIni_X2 tY_X2_loadOn (by decide +kernel) ⟨by decide, by decide⟩ ⟨by decide, by decide⟩ (Nat.le_of_ble_eq_true rfl) rfl h (fun q hq => c_X2_loadOn N _ _ _ q hq) (fun q3 _ h => ?_)
      refine AW_istore (ls' := [some (va_rf x0), some (.int x1), none, some (.int x3), some (.int x4), some (.int x5), some (.int x6), some (.int x7), some (.int q3.1)]) dX2_shownBy_29 (c1_i rfl) (by decide) rfl ?_
      refine AW_iload_n dX2_shownBy_31 rfl ?_
      refine AW_iload dX2_shownBy_32 rfl ?_
      refine AW_isub dX2_shownBy_34 ?_
      refine AW_iload dX2_shownBy_35 rfl ?_
      refine AW_icmp_ne (tgt := 43) dX2_shownBy_37 (by decide) h (fun _ h => ?_) (fun _ h => ?_)
      · exact (t_X2_shownBy_43 N (f_X2_shownBy_14 N n) ih _ _ _ _ _ _ _ _ _ _ h)
      · refine AW_iinc (v := 1) (ls' := [some (va_rf x0), some (.int x1), none, some (.int x3), some (.int x4), some (.int x5), some (.int x6), some (.int x7), some (.int (q3.1 + (1 : Int32)))]) dX2_shownBy_40 rfl (c1_i rfl) (by decide) (by decide) rfl ?_
        exact (t_X2_shownBy_43 N (f_X2_shownBy_14 N n) ih _ _ _ _ _ _ _ _ _ _ h)
def f_X2_shownBy_0 (N : Nat) (A : hP) (x0 : Option Nat) (x1 : Int32) (x2 : Int32) (x3 : Int32) (x4 : Int32) : Option (Int32 × hP) := (oCk A x0 2).bind fun _ => (f_X2_reachOf N A x0 x1 x2).bind fun q4 => f_X2_shownBy_14 N N q4.2 x0 x1 x3 x4 (0 : Int32) q4.1 (0 : Int32)
set_option maxRecDepth 20000 in
set_option maxHeartbeats 4000000 in
theorem t_X2_shownBy_0 {l : Launch} {G : gS} (N : Nat) (A : hP) (x0 : Option Nat) (x1 : Int32) (x2 : Int32) (x3 : Int32) (x4 : Int32) (res : Int32 × hP) (h : f_X2_shownBy_0 N A x0 x1 x2 x3 x4 = some res) : AW l mX2_shownBy (g_rm 2 0 0) G (g_Qf G (gi res) 0 0) A 0 0 0 [some (va_rf x0), some (.int x1), some (.int x2), some (.int x3), some (.int x4), none, none, none, none] [] := by
  unfold f_X2_shownBy_0 at h
  refine AW_iconst (v := 0) dX2_shownBy_0 (by decide) ?_
  refine AW_istore (ls' := [some (va_rf x0), some (.int x1), some (.int x2), some (.int x3), some (.int x4), some (.int (0 : Int32)), none, none, none]) dX2_shownBy_1 (c1_i rfl) (by decide) rfl ?_
  refine AW_aload_n dX2_shownBy_3 rfl ?_
  refine AW_iload_n dX2_shownBy_4 rfl ?_
  refine AW_iload_n dX2_shownBy_5 rfl ?_
  refine AW_callVi (y := yX2_reachOf) (cc := cX2_reachOf) (n := 4) (d := 1) (mc := 0) (ms := 0) (np := 2) (ret := (some .int)) (As := [.int x1, .int x2]) (st := []) (ci := 2) dX2_shownBy_6 gT_s rfl tM_X2_100 tI_X2_reachOf tSel_X2_X2_X2_reachOf tIni_X2 tY_X2_reachOf (by decide +kernel) ⟨by decide, by decide⟩ ⟨by decide, by decide⟩ (Nat.le_of_ble_eq_true rfl) rfl h (fun q hq => c_X2_reachOf N _ _ _ _ q hq) (fun q4 _ h => ?_)
  refine AW_istore (ls' := [some (va_rf x0), some (.int x1), some (.int x2), some (.int x3), some (.int x4), some (.int (0 : Int32)), some (.int q4.1), none, none]) dX2_shownBy_9 (c1_i rfl) (by decide) rfl ?_
  refine AW_iconst (v := 0) dX2_shownBy_11 (by decide) ?_
  refine AW_istore (ls' := [some (va_rf x0), some (.int x1), some (.int x2), some (.int x3), some (.int x4), some (.int (0 : Int32)), some (.int q4.1), some (.int (0 : Int32)), none]) dX2_shownBy_12 (c1_i rfl) (by decide) rfl ?_
  exact AW_fewer (fw_k (fw_k (fw_d (fw_k (fw_k (fw_k (fw_k (fw_k (fw_k fw_n))))))))) (t_X2_shownBy_14 N N _ _ _ _ _ _ _ _ _ h)
def f_X2_shownBy (N : Nat) (A : hP) (x0 : Option Nat) (x1 : Int32) (x2 : Int32) (x3 : Int32) (x4 : Int32) : Option (Int32 × hP) := f_X2_shownBy_0 N A x0 x1 x2 x3 x4
set_option maxRecDepth 20000 in
theorem c_X2_shownBy {l : Launch} (N : Nat) (A : hP) (x0 : Option Nat) (x1 : Int32) (x2 : Int32) (x3 : Int32) (x4 : Int32) (res : Int32 × hP) (h : f_X2_shownBy N A x0 x1 x2 x3 x4 = some res) : Ct l mX2_shownBy 2 0 0 A [va_rf x0, .int x1, .int x2, .int x3, .int x4] (gi res) := Ct.of (lv := [(0, va_rf x0), (1, .int x1), (2, .int x2), (3, .int x3), (4, .int x4)]) (ls := [some (va_rf x0), some (.int x1), some (.int x2), some (.int x3), some (.int x4), none, none, none, none]) (by decide) (by simp [lv_args, g_cat_rf, cat_i, cat_l]) rfl (by simp [g_cat_rf, cat_i, cat_l]) (fun G => (t_X2_shownBy_0 N A x0 x1 x2 x3 x4 res h))
abbrev mX2_shownOn : gM := gMk yX2_shownOn cX2_shownOn 2 (some .int)
def f_X2_shownOn_0 (N : Nat) (A : hP) (x0 : Option Nat) (x1 : Int32) : Option (Int32 × hP) := (oI A x0 2 1).bind fun v1 => (oI A x0 2 2).bind fun v2 => (oCk A x0 2).bind fun _ => (f_X2_shownBy N A x0 x1 v1 v2 (-1 : Int32)).bind fun q3 => some (q3.1, q3.2)
set_option maxRecDepth 20000 in
set_option maxHeartbeats 4000000 in
theorem t_X2_shownOn_0 {l : Launch} {G : gS} (N : Nat) (A : hP) (x0 : Option Nat) (x1 : Int32) (res : Int32 × hP) (h : f_X2_shownOn_0 N A x0 x1 = some res) : AW l mX2_shownOn (g_rm 3 0 0) G (g_Qf G (gi res) 0 0) A 0 0 0 [some (va_rf x0), some (.int x1)] [] := by
  unfold f_X2_shownOn_0 at h
  refine AW_aload_n dX2_shownOn_0 rfl ?_
  refine AW_iload_n dX2_shownOn_1 rfl ?_
  refine AW_aload_n dX2_shownOn_2 rfl ?_
  refine AW_getI (ci := 2) (k0 := 1) (C := RX2) (T := TX2) (N := 11) dX2_shownOn_3 rfl (gT_u tU_X2) (by decide) (List.mem_cons_of_mem _ tF_X2_41) h (fun v1 _ h => ?_)
  refine AW_aload_n dX2_shownOn_6 rfl ?_
  refine AW_getI (ci := 2) (k0 := 2) (C := RX2) (T := TX2) (N := 11) dX2_shownOn_7 rfl (gT_u tU_X2) (by decide) (List.mem_cons_of_mem _ tF_X2_44) h (fun v2 _ h => ?_)
  refine AW_iconst (v := -1) dX2_shownOn_10 (by decide) ?_
  refine AW_callVi (y := yX2_shownBy) (cc := cX2_shownBy) (n := 9) (d := 2) (mc := 0) (ms := 0) (np := 4) (ret := (some .int)) (As := [.int x1, .int v1, .int v2, .int (-1 : Int32)]) (st := []) (ci := 2) dX2_shownOn_11 gT_s rfl tM_X2_96 tI_X2_shownBy selp_X2_shownBy tIni_X2 tY_X2_shownBy (by decide +kernel) ⟨by decide, by decide⟩ ⟨by decide, by decide⟩ (Nat.le_of_ble_eq_true rfl) rfl h (fun q hq => c_X2_shownBy N _ _ _ _ _ _ q hq) (fun q3 _ h => ?_)
  exact AW_iret dX2_shownOn_14 rfl ⟨Nat.zero_le _, Nat.zero_le _⟩ h
def f_X2_shownOn (N : Nat) (A : hP) (x0 : Option Nat) (x1 : Int32) : Option (Int32 × hP) := f_X2_shownOn_0 N A x0 x1
set_option maxRecDepth 20000 in
theorem c_X2_shownOn {l : Launch} (N : Nat) (A : hP) (x0 : Option Nat) (x1 : Int32) (res : Int32 × hP) (h : f_X2_shownOn N A x0 x1 = some res) : Ct l mX2_shownOn 3 0 0 A [va_rf x0, .int x1] (gi res) := Ct.of (lv := [(0, va_rf x0), (1, .int x1)]) (ls := [some (va_rf x0), some (.int x1)]) (by decide) (by simp [lv_args, g_cat_rf, cat_i, cat_l]) rfl (by simp [g_cat_rf, cat_i, cat_l]) (fun G => (t_X2_shownOn_0 N A x0 x1 res h))
abbrev mX2_hasDay : gM := gMk yX2_hasDay cX2_hasDay 2 (some .boolean)
def f_X2_hasDay_17 (N : Nat) (A : hP) (s0 : Int32) : Option (Int32 × hP) := if s0 = 0 ∨ s0 = 1 then some (s0, A) else none
set_option maxRecDepth 20000 in
set_option maxHeartbeats 4000000 in
theorem t_X2_hasDay_17 {l : Launch} {G : gS} (N : Nat) (A : hP) (s0 : Int32) (res : Int32 × hP) (h : f_X2_hasDay_17 N A s0 = some res) : AW l mX2_hasDay (g_rm 0 0 0) G (g_Qf G (gi res) 0 0) A 0 0 17 [none, none] [.int s0] := by
  unfold f_X2_hasDay_17 at h
  exact AW_zret dX2_hasDay_17 rfl ⟨Nat.zero_le _, Nat.zero_le _⟩ h
def f_X2_hasDay_16 (N : Nat) (A : hP) : Option (Int32 × hP) := f_X2_hasDay_17 N A (0 : Int32)
set_option maxRecDepth 20000 in
set_option maxHeartbeats 4000000 in
theorem t_X2_hasDay_16 {l : Launch} {G : gS} (N : Nat) (A : hP) (res : Int32 × hP) (h : f_X2_hasDay_16 N A  = some res) : AW l mX2_hasDay (g_rm 0 0 0) G (g_Qf G (gi res) 0 0) A 0 0 16 [none, none] [] := by
  unfold f_X2_hasDay_16 at h
  refine AW_iconst (v := 0) dX2_hasDay_16 (by decide) ?_
  exact (t_X2_hasDay_17 N _ _ _ h)
def f_X2_hasDay_0 (N : Nat) (A : hP) (x0 : Option Nat) (x1 : Int32) : Option (Int32 × hP) := if x1 < (0) then (f_X2_hasDay_16 N A) else ((oI A x0 2 5).bind fun v1 => if v1 ≤ x1 then (f_X2_hasDay_16 N A) else (f_X2_hasDay_17 N A (1 : Int32)))
set_option maxRecDepth 20000 in
set_option maxHeartbeats 4000000 in
theorem t_X2_hasDay_0 {l : Launch} {G : gS} (N : Nat) (A : hP) (x0 : Option Nat) (x1 : Int32) (res : Int32 × hP) (h : f_X2_hasDay_0 N A x0 x1 = some res) : AW l mX2_hasDay (g_rm 0 0 0) G (g_Qf G (gi res) 0 0) A 0 0 0 [some (va_rf x0), some (.int x1)] [] := by
  unfold f_X2_hasDay_0 at h
  refine AW_iload_n dX2_hasDay_0 rfl ?_
  refine AW_if_lt (tgt := 16) dX2_hasDay_1 (by decide) h (fun _ h => ?_) (fun _ h => ?_)
  · exact AW_fewer (fw_d (fw_d fw_n)) (t_X2_hasDay_16 N _ _ h)
  · refine AW_iload_n dX2_hasDay_4 rfl ?_
    refine AW_aload_n dX2_hasDay_5 rfl ?_
    refine AW_getI (ci := 2) (k0 := 5) (C := RX2) (T := TX2) (N := 11) dX2_hasDay_6 rfl (gT_u tU_X2) (by decide) (List.mem_cons_of_mem _ tF_X2_31) h (fun v1 _ h => ?_)
    refine AW_icmp_ge (tgt := 16) dX2_hasDay_9 (by decide) h (fun _ h => ?_) (fun _ h => ?_)
    · exact AW_fewer (fw_d (fw_d fw_n)) (t_X2_hasDay_16 N _ _ h)
    · refine AW_iconst (v := 1) dX2_hasDay_12 (by decide) ?_
      refine AW_goto (tgt := 17) dX2_hasDay_13 (by decide) ?_
      exact AW_fewer (fw_d (fw_d fw_n)) (t_X2_hasDay_17 N _ _ _ h)
def f_X2_hasDay (N : Nat) (A : hP) (x0 : Option Nat) (x1 : Int32) : Option (Int32 × hP) := f_X2_hasDay_0 N A x0 x1
set_option maxRecDepth 20000 in
theorem c_X2_hasDay {l : Launch} (N : Nat) (A : hP) (x0 : Option Nat) (x1 : Int32) (res : Int32 × hP) (h : f_X2_hasDay N A x0 x1 = some res) : Ct l mX2_hasDay 0 0 0 A [va_rf x0, .int x1] (gi res) := Ct.of (lv := [(0, va_rf x0), (1, .int x1)]) (ls := [some (va_rf x0), some (.int x1)]) (by decide) (by simp [lv_args, g_cat_rf, cat_i, cat_l]) rfl (by simp [g_cat_rf, cat_i, cat_l]) (fun G => (t_X2_hasDay_0 N A x0 x1 res h))
abbrev mX2_thingAt : gM := gMk yX2_thingAt cX2_thingAt 2 (some (.object "YesterdayScale$Thing"))
def f_X2_thingAt_22 (N : Nat) (A : hP) (s0 : Option Nat) : Option (Option Nat × hP) := some (s0, A)
set_option maxRecDepth 20000 in
set_option maxHeartbeats 4000000 in
theorem t_X2_thingAt_22 {l : Launch} {G : gS} (N : Nat) (A : hP) (s0 : Option Nat) (res : Option Nat × hP) (h : f_X2_thingAt_22 N A s0 = some res) : AW l mX2_thingAt (g_rm 0 0 0) G (g_Qf G (gr res) 0 0) A 0 0 22 [none, none] [va_rf s0] := by
  unfold f_X2_thingAt_22 at h
  exact AW_aret dX2_thingAt_22 rfl ⟨Nat.zero_le _, Nat.zero_le _⟩ h
def f_X2_thingAt_21 (N : Nat) (A : hP) : Option (Option Nat × hP) := f_X2_thingAt_22 N A none
set_option maxRecDepth 20000 in
set_option maxHeartbeats 4000000 in
theorem t_X2_thingAt_21 {l : Launch} {G : gS} (N : Nat) (A : hP) (res : Option Nat × hP) (h : f_X2_thingAt_21 N A  = some res) : AW l mX2_thingAt (g_rm 0 0 0) G (g_Qf G (gr res) 0 0) A 0 0 21 [none, none] [] := by
  unfold f_X2_thingAt_21 at h
  refine AW_null dX2_thingAt_21 ?_
  exact (t_X2_thingAt_22 N _ _ _ h)
def f_X2_thingAt_0 (N : Nat) (A : hP) (x0 : Option Nat) (x1 : Int32) : Option (Option Nat × hP) := if x1 < (0) then (f_X2_thingAt_21 N A) else ((oI A x0 2 4).bind fun v1 => if v1 ≤ x1 then (f_X2_thingAt_21 N A) else ((oR A x0 2 9).bind fun v2 => (oQ A v2 5 x1).bind fun v3 => f_X2_thingAt_22 N A v3))
set_option maxRecDepth 20000 in
set_option maxHeartbeats 4000000 in
theorem t_X2_thingAt_0 {l : Launch} {G : gS} (N : Nat) (A : hP) (x0 : Option Nat) (x1 : Int32) (res : Option Nat × hP) (h : f_X2_thingAt_0 N A x0 x1 = some res) : AW l mX2_thingAt (g_rm 0 0 0) G (g_Qf G (gr res) 0 0) A 0 0 0 [some (va_rf x0), some (.int x1)] [] := by
  unfold f_X2_thingAt_0 at h
  refine AW_iload_n dX2_thingAt_0 rfl ?_
  refine AW_if_lt (tgt := 21) dX2_thingAt_1 (by decide) h (fun _ h => ?_) (fun _ h => ?_)
  · exact AW_fewer (fw_d (fw_d fw_n)) (t_X2_thingAt_21 N _ _ h)
  · refine AW_iload_n dX2_thingAt_4 rfl ?_
    refine AW_aload_n dX2_thingAt_5 rfl ?_
    refine AW_getI (ci := 2) (k0 := 4) (C := RX2) (T := TX2) (N := 11) dX2_thingAt_6 rfl (gT_u tU_X2) (by decide) (List.mem_cons_of_mem _ tF_X2_27) h (fun v1 _ h => ?_)
    refine AW_icmp_ge (tgt := 21) dX2_thingAt_9 (by decide) h (fun _ h => ?_) (fun _ h => ?_)
    · exact AW_fewer (fw_d (fw_d fw_n)) (t_X2_thingAt_21 N _ _ h)
    · refine AW_aload_n dX2_thingAt_12 rfl ?_
      refine AW_getR (ci := 2) (k0 := 9) (C := RX2) (T := TX2) (N := 11) dX2_thingAt_13 rfl (gT_u tU_X2) (by decide) (List.mem_cons_of_mem _ tF_X2_20) h (fun v2 _ h => ?_)
      refine AW_iload_n dX2_thingAt_16 rfl ?_
      refine AW_aald (fun _ => rfl) dX2_thingAt_17 h (fun v3 _ h => ?_)
      refine AW_goto (tgt := 22) dX2_thingAt_18 (by decide) ?_
      exact AW_fewer (fw_d (fw_d fw_n)) (t_X2_thingAt_22 N _ _ _ h)
def f_X2_thingAt (N : Nat) (A : hP) (x0 : Option Nat) (x1 : Int32) : Option (Option Nat × hP) := f_X2_thingAt_0 N A x0 x1
set_option maxRecDepth 20000 in
theorem c_X2_thingAt {l : Launch} (N : Nat) (A : hP) (x0 : Option Nat) (x1 : Int32) (res : Option Nat × hP) (h : f_X2_thingAt N A x0 x1 = some res) : Ct l mX2_thingAt 0 0 0 A [va_rf x0, .int x1] (gr res) := Ct.of (lv := [(0, va_rf x0), (1, .int x1)]) (ls := [some (va_rf x0), some (.int x1)]) (by decide) (by simp [lv_args, g_cat_rf, cat_i, cat_l]) rfl (by simp [g_cat_rf, cat_i, cat_l]) (fun G => (t_X2_thingAt_0 N A x0 x1 res h))
abbrev mX2_tellsBy : gM := gMk yX2_tellsBy cX2_tellsBy 5 (some .boolean)
def f_X2_tellsBy_38 (N : Nat) (r3 : hP → Option Nat → Int32 → Int32 → Option Nat → Int32 → Option (Int32 × hP)) (A : hP) (x0 : Option Nat) (x1 : Int32) (x2 : Int32) (x3 : Option Nat) (x4 : Int32) : Option (Int32 × hP) := r3 A x0 x1 x2 x3 (x4 + (1 : Int32))
set_option maxRecDepth 20000 in
set_option maxHeartbeats 4000000 in
theorem t_X2_tellsBy_38 {l : Launch} {G : gS} (N : Nat) (r3 : hP → Option Nat → Int32 → Int32 → Option Nat → Int32 → Option (Int32 × hP)) (hr3 : ∀ (A : hP) (x0 : Option Nat) (x1 : Int32) (x2 : Int32) (x3 : Option Nat) (x4 : Int32) (res : Int32 × hP), r3 A x0 x1 x2 x3 x4 = some res → AW l mX2_tellsBy (g_rm 3 0 0) G (g_Qf G (gi res) 0 0) A 0 0 3 [some (va_rf x0), some (.int x1), some (.int x2), some (va_rf x3), some (.int x4)] []) (A : hP) (x0 : Option Nat) (x1 : Int32) (x2 : Int32) (x3 : Option Nat) (x4 : Int32) (res : Int32 × hP) (h : f_X2_tellsBy_38 N r3 A x0 x1 x2 x3 x4 = some res) : AW l mX2_tellsBy (g_rm 3 0 0) G (g_Qf G (gi res) 0 0) A 0 0 38 [some (va_rf x0), some (.int x1), some (.int x2), some (va_rf x3), some (.int x4)] [] := by
  unfold f_X2_tellsBy_38 at h
  refine AW_iinc (v := 1) (ls' := [some (va_rf x0), some (.int x1), some (.int x2), some (va_rf x3), some (.int (x4 + (1 : Int32)))]) dX2_tellsBy_38 rfl (c1_r rfl) (by decide) (by decide) rfl ?_
  refine AW_goto (tgt := 3) dX2_tellsBy_41 (by decide) ?_
  exact (hr3 _ _ _ _ _ _ _ h)
def f_X2_tellsBy_3 (N : Nat) : Nat → hP → Option Nat → Int32 → Int32 → Option Nat → Int32 → Option (Int32 × hP)
  | 0, _, _, _, _, _, _ => none
  | n + 1, A, x0, x1, x2, x3, x4 => (oI A x0 2 5).bind fun v1 => if v1 ≤ x4 then (if (1 : Int32) = 0 ∨ (1 : Int32) = 1 then some ((1 : Int32), A) else none) else ((oA A x3 0 x4).bind fun v2 => if v2 = (-1 : Int32) then (f_X2_tellsBy_38 N (f_X2_tellsBy_3 N n) A x0 x1 x2 x3 x4) else ((oA A x3 0 x4).bind fun v3 => (oCk A x0 2).bind fun _ => (f_X2_shownBy N A x0 x4 x1 x2 (-1 : Int32)).bind fun q4 => if v3 = q4.1 then (f_X2_tellsBy_38 N (f_X2_tellsBy_3 N n) q4.2 x0 x1 x2 x3 x4) else (if (0 : Int32) = 0 ∨ (0 : Int32) = 1 then some ((0 : Int32), q4.2) else none)))
set_option maxRecDepth 20000 in
set_option maxHeartbeats 4000000 in
theorem t_X2_tellsBy_3 {l : Launch} {G : gS} (N : Nat) : ∀ (n : Nat) (A : hP) (x0 : Option Nat) (x1 : Int32) (x2 : Int32) (x3 : Option Nat) (x4 : Int32) (res : Int32 × hP), f_X2_tellsBy_3 N n A x0 x1 x2 x3 x4 = some res → AW l mX2_tellsBy (g_rm 3 0 0) G (g_Qf G (gi res) 0 0) A 0 0 3 [some (va_rf x0), some (.int x1), some (.int x2), some (va_rf x3), some (.int x4)] [] := by
  intro n
  induction n with
  | zero => intro A x0 x1 x2 x3 x4 res h; cases h
  | succ n ih =>
    intro A x0 x1 x2 x3 x4 res h
    rw [f_X2_tellsBy_3] at h
    refine AW_iload dX2_tellsBy_3 rfl ?_
    refine AW_aload_n dX2_tellsBy_5 rfl ?_
    refine AW_getI (ci := 2) (k0 := 5) (C := RX2) (T := TX2) (N := 11) dX2_tellsBy_6 rfl (gT_u tU_X2) (by decide) (List.mem_cons_of_mem _ tF_X2_31) h (fun v1 _ h => ?_)
    refine AW_icmp_ge (tgt := 44) dX2_tellsBy_9 (by decide) h (fun _ h => ?_) (fun _ h => ?_)
    · refine AW_iconst (v := 1) dX2_tellsBy_44 (by decide) ?_
      exact AW_zret dX2_tellsBy_45 rfl ⟨Nat.zero_le _, Nat.zero_le _⟩ h
    · refine AW_aload_n dX2_tellsBy_12 rfl ?_
      refine AW_iload dX2_tellsBy_13 rfl ?_
      refine AW_iald dX2_tellsBy_15 h (fun v2 _ h => ?_)
      refine AW_iconst (v := -1) dX2_tellsBy_16 (by decide) ?_
      refine AW_icmp_eq (tgt := 38) dX2_tellsBy_17 (by decide) h (fun _ h => ?_) (fun _ h => ?_)
      · exact (t_X2_tellsBy_38 N (f_X2_tellsBy_3 N n) ih _ _ _ _ _ _ _ h)
      · refine AW_aload_n dX2_tellsBy_20 rfl ?_
        refine AW_iload dX2_tellsBy_21 rfl ?_
        refine AW_iald dX2_tellsBy_23 h (fun v3 _ h => ?_)
        refine AW_aload_n dX2_tellsBy_24 rfl ?_
        refine AW_iload dX2_tellsBy_25 rfl ?_
        refine AW_iload_n dX2_tellsBy_27 rfl ?_
        refine AW_iload_n dX2_tellsBy_28 rfl ?_
        refine AW_iconst (v := -1) dX2_tellsBy_29 (by decide) ?_
        refine AW_callVi (y := yX2_shownBy) (cc := cX2_shownBy) (n := 9) (d := 2) (mc := 0) (ms := 0) (np := 4) (ret := (some .int)) (As := [.int x4, .int x1, .int x2, .int (-1 : Int32)]) (st := [.int v3]) (ci := 2) dX2_tellsBy_30 gT_s rfl tM_X2_96 tI_X2_shownBy selp_X2_shownBy tIni_X2 tY_X2_shownBy (by decide +kernel) ⟨by decide, by decide⟩ ⟨by decide, by decide⟩ (Nat.le_of_ble_eq_true rfl) rfl h (fun q hq => c_X2_shownBy N _ _ _ _ _ _ q hq) (fun q4 _ h => ?_)
        refine AW_icmp_eq (tgt := 38) dX2_tellsBy_33 (by decide) h (fun _ h => ?_) (fun _ h => ?_)
        · exact (t_X2_tellsBy_38 N (f_X2_tellsBy_3 N n) ih _ _ _ _ _ _ _ h)
        · refine AW_iconst (v := 0) dX2_tellsBy_36 (by decide) ?_
          exact AW_zret dX2_tellsBy_37 rfl ⟨Nat.zero_le _, Nat.zero_le _⟩ h
def f_X2_tellsBy_0 (N : Nat) (A : hP) (x0 : Option Nat) (x1 : Int32) (x2 : Int32) (x3 : Option Nat) : Option (Int32 × hP) := f_X2_tellsBy_3 N N A x0 x1 x2 x3 (0 : Int32)
set_option maxRecDepth 20000 in
set_option maxHeartbeats 4000000 in
theorem t_X2_tellsBy_0 {l : Launch} {G : gS} (N : Nat) (A : hP) (x0 : Option Nat) (x1 : Int32) (x2 : Int32) (x3 : Option Nat) (res : Int32 × hP) (h : f_X2_tellsBy_0 N A x0 x1 x2 x3 = some res) : AW l mX2_tellsBy (g_rm 3 0 0) G (g_Qf G (gi res) 0 0) A 0 0 0 [some (va_rf x0), some (.int x1), some (.int x2), some (va_rf x3), none] [] := by
  unfold f_X2_tellsBy_0 at h
  refine AW_iconst (v := 0) dX2_tellsBy_0 (by decide) ?_
  refine AW_istore (ls' := [some (va_rf x0), some (.int x1), some (.int x2), some (va_rf x3), some (.int (0 : Int32))]) dX2_tellsBy_1 (c1_r rfl) (by decide) rfl ?_
  exact (t_X2_tellsBy_3 N N _ _ _ _ _ _ _ h)
def f_X2_tellsBy (N : Nat) (A : hP) (x0 : Option Nat) (x1 : Int32) (x2 : Int32) (x3 : Option Nat) : Option (Int32 × hP) := f_X2_tellsBy_0 N A x0 x1 x2 x3
set_option maxRecDepth 20000 in
theorem c_X2_tellsBy {l : Launch} (N : Nat) (A : hP) (x0 : Option Nat) (x1 : Int32) (x2 : Int32) (x3 : Option Nat) (res : Int32 × hP) (h : f_X2_tellsBy N A x0 x1 x2 x3 = some res) : Ct l mX2_tellsBy 3 0 0 A [va_rf x0, .int x1, .int x2, va_rf x3] (gi res) := Ct.of (lv := [(0, va_rf x0), (1, .int x1), (2, .int x2), (3, va_rf x3)]) (ls := [some (va_rf x0), some (.int x1), some (.int x2), some (va_rf x3), none]) (by decide) (by simp [lv_args, g_cat_rf, cat_i, cat_l]) rfl (by simp [g_cat_rf, cat_i, cat_l]) (fun G => (t_X2_tellsBy_0 N A x0 x1 x2 x3 res h))
abbrev mX2_lawsTelling : gM := gMk yX2_lawsTelling cX2_lawsTelling 4 (some .int)
def f_X2_lawsTelling_30 (N : Nat) (r4 : hP → Option Nat → Option Nat → Int32 → Int32 → Option (Int32 × hP)) (A : hP) (x0 : Option Nat) (x1 : Option Nat) (x2 : Int32) (x3 : Int32) : Option (Int32 × hP) := r4 A x0 x1 x2 (x3 + (1 : Int32))
set_option maxRecDepth 20000 in
set_option maxHeartbeats 4000000 in
theorem t_X2_lawsTelling_30 {l : Launch} {G : gS} (N : Nat) (r4 : hP → Option Nat → Option Nat → Int32 → Int32 → Option (Int32 × hP)) (hr4 : ∀ (A : hP) (x0 : Option Nat) (x1 : Option Nat) (x2 : Int32) (x3 : Int32) (res : Int32 × hP), r4 A x0 x1 x2 x3 = some res → AW l mX2_lawsTelling (g_rm 4 0 0) G (g_Qf G (gi res) 0 0) A 0 0 4 [some (va_rf x0), some (va_rf x1), some (.int x2), some (.int x3)] []) (A : hP) (x0 : Option Nat) (x1 : Option Nat) (x2 : Int32) (x3 : Int32) (res : Int32 × hP) (h : f_X2_lawsTelling_30 N r4 A x0 x1 x2 x3 = some res) : AW l mX2_lawsTelling (g_rm 4 0 0) G (g_Qf G (gi res) 0 0) A 0 0 30 [some (va_rf x0), some (va_rf x1), some (.int x2), some (.int x3)] [] := by
  unfold f_X2_lawsTelling_30 at h
  refine AW_iinc (v := 1) (ls' := [some (va_rf x0), some (va_rf x1), some (.int x2), some (.int (x3 + (1 : Int32)))]) dX2_lawsTelling_30 rfl (c1_i rfl) (by decide) (by decide) rfl ?_
  refine AW_goto (tgt := 4) dX2_lawsTelling_33 (by decide) ?_
  exact (hr4 _ _ _ _ _ _ h)
def f_X2_lawsTelling_4 (N : Nat) : Nat → hP → Option Nat → Option Nat → Int32 → Int32 → Option (Int32 × hP)
  | 0, _, _, _, _, _ => none
  | n + 1, A, x0, x1, x2, x3 => if (8 : Int32) ≤ x3 then (some (x2, A)) else ((oRm x3 (4 : Int32)).bind fun v1 => (oDv x3 (4 : Int32)).bind fun v2 => (oCk A x0 2).bind fun _ => (f_X2_tellsBy N A x0 v1 v2 x1).bind fun q3 => if q3.1 = (0) then (f_X2_lawsTelling_30 N (f_X2_lawsTelling_4 N n) q3.2 x0 x1 x2 x3) else (f_X2_lawsTelling_30 N (f_X2_lawsTelling_4 N n) q3.2 x0 x1 (x2 ||| ((1 : Int32) <<< (x3 &&& 31))) x3))
set_option maxRecDepth 20000 in
set_option maxHeartbeats 4000000 in
theorem t_X2_lawsTelling_4 {l : Launch} {G : gS} (N : Nat) : ∀ (n : Nat) (A : hP) (x0 : Option Nat) (x1 : Option Nat) (x2 : Int32) (x3 : Int32) (res : Int32 × hP), f_X2_lawsTelling_4 N n A x0 x1 x2 x3 = some res → AW l mX2_lawsTelling (g_rm 4 0 0) G (g_Qf G (gi res) 0 0) A 0 0 4 [some (va_rf x0), some (va_rf x1), some (.int x2), some (.int x3)] [] := by
  intro n
  induction n with
  | zero => intro A x0 x1 x2 x3 res h; cases h
  | succ n ih =>
    intro A x0 x1 x2 x3 res h
    rw [f_X2_lawsTelling_4] at h
    refine AW_iload_n dX2_lawsTelling_4 rfl ?_
    refine AW_bipush (v := 8) dX2_lawsTelling_5 (by decide) ?_
    refine AW_icmp_ge (tgt := 36) dX2_lawsTelling_7 (by decide) h (fun _ h => ?_) (fun _ h => ?_)
    · refine AW_iload_n dX2_lawsTelling_36 rfl ?_
      exact AW_iret dX2_lawsTelling_37 rfl ⟨Nat.zero_le _, Nat.zero_le _⟩ h
    · refine AW_aload_n dX2_lawsTelling_10 rfl ?_
      refine AW_iload_n dX2_lawsTelling_11 rfl ?_
      refine AW_iconst (v := 4) dX2_lawsTelling_12 (by decide) ?_
      refine AW_rem dX2_lawsTelling_13 h (fun v1 _ h => ?_)
      refine AW_iload_n dX2_lawsTelling_14 rfl ?_
      refine AW_iconst (v := 4) dX2_lawsTelling_15 (by decide) ?_
      refine AW_div dX2_lawsTelling_16 h (fun v2 _ h => ?_)
      refine AW_aload_n dX2_lawsTelling_17 rfl ?_
      refine AW_callVi (y := yX2_tellsBy) (cc := cX2_tellsBy) (n := 5) (d := 3) (mc := 0) (ms := 0) (np := 3) (ret := (some .boolean)) (As := [.int v1, .int v2, va_rf x1]) (st := []) (ci := 2) dX2_lawsTelling_18 gT_s rfl tM_X2_113 tI_X2_tellsBy selp_X2_tellsBy tIni_X2 tY_X2_tellsBy (by decide +kernel) ⟨by decide, by decide⟩ ⟨by decide, by decide⟩ (Nat.le_of_ble_eq_true rfl) rfl h (fun q hq => c_X2_tellsBy N _ _ _ _ _ q hq) (fun q3 _ h => ?_)
      refine AW_if_eq (tgt := 30) dX2_lawsTelling_21 (by decide) h (fun _ h => ?_) (fun _ h => ?_)
      · exact (t_X2_lawsTelling_30 N (f_X2_lawsTelling_4 N n) ih _ _ _ _ _ _ h)
      · refine AW_iload_n dX2_lawsTelling_24 rfl ?_
        refine AW_iconst (v := 1) dX2_lawsTelling_25 (by decide) ?_
        refine AW_iload_n dX2_lawsTelling_26 rfl ?_
        refine AW_ishl dX2_lawsTelling_27 ?_
        refine AW_ior dX2_lawsTelling_28 ?_
        refine AW_istore_n (ls' := [some (va_rf x0), some (va_rf x1), some (.int (x2 ||| ((1 : Int32) <<< (x3 &&& 31)))), some (.int x3)]) dX2_lawsTelling_29 (c1_r rfl) (by decide) rfl ?_
        exact (t_X2_lawsTelling_30 N (f_X2_lawsTelling_4 N n) ih _ _ _ _ _ _ h)
def f_X2_lawsTelling_0 (N : Nat) (A : hP) (x0 : Option Nat) (x1 : Option Nat) : Option (Int32 × hP) := f_X2_lawsTelling_4 N N A x0 x1 (0 : Int32) (0 : Int32)
set_option maxRecDepth 20000 in
set_option maxHeartbeats 4000000 in
theorem t_X2_lawsTelling_0 {l : Launch} {G : gS} (N : Nat) (A : hP) (x0 : Option Nat) (x1 : Option Nat) (res : Int32 × hP) (h : f_X2_lawsTelling_0 N A x0 x1 = some res) : AW l mX2_lawsTelling (g_rm 4 0 0) G (g_Qf G (gi res) 0 0) A 0 0 0 [some (va_rf x0), some (va_rf x1), none, none] [] := by
  unfold f_X2_lawsTelling_0 at h
  refine AW_iconst (v := 0) dX2_lawsTelling_0 (by decide) ?_
  refine AW_istore_n (ls' := [some (va_rf x0), some (va_rf x1), some (.int (0 : Int32)), none]) dX2_lawsTelling_1 (c1_r rfl) (by decide) rfl ?_
  refine AW_iconst (v := 0) dX2_lawsTelling_2 (by decide) ?_
  refine AW_istore_n (ls' := [some (va_rf x0), some (va_rf x1), some (.int (0 : Int32)), some (.int (0 : Int32))]) dX2_lawsTelling_3 (c1_i rfl) (by decide) rfl ?_
  exact (t_X2_lawsTelling_4 N N _ _ _ _ _ _ h)
def f_X2_lawsTelling (N : Nat) (A : hP) (x0 : Option Nat) (x1 : Option Nat) : Option (Int32 × hP) := f_X2_lawsTelling_0 N A x0 x1
set_option maxRecDepth 20000 in
theorem c_X2_lawsTelling {l : Launch} (N : Nat) (A : hP) (x0 : Option Nat) (x1 : Option Nat) (res : Int32 × hP) (h : f_X2_lawsTelling N A x0 x1 = some res) : Ct l mX2_lawsTelling 4 0 0 A [va_rf x0, va_rf x1] (gi res) := Ct.of (lv := [(0, va_rf x0), (1, va_rf x1)]) (ls := [some (va_rf x0), some (va_rf x1), none, none]) (by decide) (by simp [lv_args, g_cat_rf, cat_i, cat_l]) rfl (by simp [g_cat_rf, cat_i, cat_l]) (fun G => (t_X2_lawsTelling_0 N A x0 x1 res h))
abbrev mX2_changedBy : gM := gMk yX2_changedBy cX2_changedBy 4 (some .int)
def f_X2_changedBy_40 (N : Nat) (r4 : hP → Option Nat → Int32 → Int32 → Int32 → Option (Int32 × hP)) (A : hP) (x0 : Option Nat) (x1 : Int32) (x2 : Int32) (x3 : Int32) : Option (Int32 × hP) := r4 A x0 x1 x2 (x3 + (1 : Int32))
set_option maxRecDepth 20000 in
set_option maxHeartbeats 4000000 in
theorem t_X2_changedBy_40 {l : Launch} {G : gS} (N : Nat) (r4 : hP → Option Nat → Int32 → Int32 → Int32 → Option (Int32 × hP)) (hr4 : ∀ (A : hP) (x0 : Option Nat) (x1 : Int32) (x2 : Int32) (x3 : Int32) (res : Int32 × hP), r4 A x0 x1 x2 x3 = some res → AW l mX2_changedBy (g_rm 4 0 0) G (g_Qf G (gi res) 0 0) A 0 0 4 [some (va_rf x0), some (.int x1), some (.int x2), some (.int x3)] []) (A : hP) (x0 : Option Nat) (x1 : Int32) (x2 : Int32) (x3 : Int32) (res : Int32 × hP) (h : f_X2_changedBy_40 N r4 A x0 x1 x2 x3 = some res) : AW l mX2_changedBy (g_rm 4 0 0) G (g_Qf G (gi res) 0 0) A 0 0 40 [some (va_rf x0), some (.int x1), some (.int x2), some (.int x3)] [] := by
  unfold f_X2_changedBy_40 at h
  refine AW_iinc (v := 1) (ls' := [some (va_rf x0), some (.int x1), some (.int x2), some (.int (x3 + (1 : Int32)))]) dX2_changedBy_40 rfl (c1_i rfl) (by decide) (by decide) rfl ?_
  refine AW_goto (tgt := 4) dX2_changedBy_43 (by decide) ?_
  exact (hr4 _ _ _ _ _ _ h)
def f_X2_changedBy_4 (N : Nat) : Nat → hP → Option Nat → Int32 → Int32 → Int32 → Option (Int32 × hP)
  | 0, _, _, _, _, _ => none
  | n + 1, A, x0, x1, x2, x3 => (oI A x0 2 5).bind fun v1 => if v1 ≤ x3 then (some (x2, A)) else ((oI A x0 2 1).bind fun v2 => (oI A x0 2 2).bind fun v3 => (oCk A x0 2).bind fun _ => (f_X2_shownBy N A x0 x3 v2 v3 x1).bind fun q4 => (oCk q4.2 x0 2).bind fun _ => (f_X2_shownOn N q4.2 x0 x3).bind fun q5 => if q4.1 = q5.1 then (f_X2_changedBy_40 N (f_X2_changedBy_4 N n) q5.2 x0 x1 x2 x3) else (f_X2_changedBy_40 N (f_X2_changedBy_4 N n) q5.2 x0 x1 (x2 ||| ((1 : Int32) <<< (x3 &&& 31))) x3))
set_option maxRecDepth 20000 in
set_option maxHeartbeats 4000000 in
theorem t_X2_changedBy_4 {l : Launch} {G : gS} (N : Nat) : ∀ (n : Nat) (A : hP) (x0 : Option Nat) (x1 : Int32) (x2 : Int32) (x3 : Int32) (res : Int32 × hP), f_X2_changedBy_4 N n A x0 x1 x2 x3 = some res → AW l mX2_changedBy (g_rm 4 0 0) G (g_Qf G (gi res) 0 0) A 0 0 4 [some (va_rf x0), some (.int x1), some (.int x2), some (.int x3)] [] := by
  intro n
  induction n with
  | zero => intro A x0 x1 x2 x3 res h; cases h
  | succ n ih =>
    intro A x0 x1 x2 x3 res h
    rw [f_X2_changedBy_4] at h
    refine AW_iload_n dX2_changedBy_4 rfl ?_
    refine AW_aload_n dX2_changedBy_5 rfl ?_
    refine AW_getI (ci := 2) (k0 := 5) (C := RX2) (T := TX2) (N := 11) dX2_changedBy_6 rfl (gT_u tU_X2) (by decide) (List.mem_cons_of_mem _ tF_X2_31) h (fun v1 _ h => ?_)
    refine AW_icmp_ge (tgt := 46) dX2_changedBy_9 (by decide) h (fun _ h => ?_) (fun _ h => ?_)
    · refine AW_iload_n dX2_changedBy_46 rfl ?_
      exact AW_iret dX2_changedBy_47 rfl ⟨Nat.zero_le _, Nat.zero_le _⟩ h
    · refine AW_aload_n dX2_changedBy_12 rfl ?_
      refine AW_iload_n dX2_changedBy_13 rfl ?_
      refine AW_aload_n dX2_changedBy_14 rfl ?_
      refine AW_getI (ci := 2) (k0 := 1) (C := RX2) (T := TX2) (N := 11) dX2_changedBy_15 rfl (gT_u tU_X2) (by decide) (List.mem_cons_of_mem _ tF_X2_41) h (fun v2 _ h => ?_)
      refine AW_aload_n dX2_changedBy_18 rfl ?_
      refine AW_getI (ci := 2) (k0 := 2) (C := RX2) (T := TX2) (N := 11) dX2_changedBy_19 rfl (gT_u tU_X2) (by decide) (List.mem_cons_of_mem _ tF_X2_44) h (fun v3 _ h => ?_)
      refine AW_iload_n dX2_changedBy_22 rfl ?_
      refine AW_callVi (y := yX2_shownBy) (cc := cX2_shownBy) (n := 9) (d := 2) (mc := 0) (ms := 0) (np := 4) (ret := (some .int)) (As := [.int x3, .int v2, .int v3, .int x1]) (st := []) (ci := 2) dX2_changedBy_23 gT_s rfl tM_X2_96 tI_X2_shownBy selp_X2_shownBy tIni_X2 tY_X2_shownBy (by decide +kernel) ⟨by decide, by decide⟩ ⟨by decide, by decide⟩ (Nat.le_of_ble_eq_true rfl) rfl h (fun q hq => c_X2_shownBy N _ _ _ _ _ _ q hq) (fun q4 _ h => ?_)
      refine AW_aload_n dX2_changedBy_26 rfl ?_
      refine AW_iload_n dX2_changedBy_27 rfl ?_
      refine AW_callVi (y := yX2_shownOn) (cc := cX2_shownOn) (n := 2) (d := 3) (mc := 0) (ms := 0) (np := 1) (ret := (some .int)) (As := [.int x3]) (st := [.int q4.1]) (ci := 2) dX2_changedBy_28 gT_s rfl tM_X2_110 tI_X2_shownOn tSel_X2_X2_X2_shownOn tIni_X2 tY_X2_shownOn (by decide +kernel) ⟨by decide, by decide⟩ ⟨by decide, by decide⟩ (Nat.le_of_ble_eq_true rfl) rfl h (fun q hq => c_X2_shownOn N _ _ _ q hq) (fun q5 _ h => ?_)
      refine AW_icmp_eq (tgt := 40) dX2_changedBy_31 (by decide) h (fun _ h => ?_) (fun _ h => ?_)
      · exact (t_X2_changedBy_40 N (f_X2_changedBy_4 N n) ih _ _ _ _ _ _ h)
      · refine AW_iload_n dX2_changedBy_34 rfl ?_
        refine AW_iconst (v := 1) dX2_changedBy_35 (by decide) ?_
        refine AW_iload_n dX2_changedBy_36 rfl ?_
        refine AW_ishl dX2_changedBy_37 ?_
        refine AW_ior dX2_changedBy_38 ?_
        refine AW_istore_n (ls' := [some (va_rf x0), some (.int x1), some (.int (x2 ||| ((1 : Int32) <<< (x3 &&& 31)))), some (.int x3)]) dX2_changedBy_39 (c1_i rfl) (by decide) rfl ?_
        exact (t_X2_changedBy_40 N (f_X2_changedBy_4 N n) ih _ _ _ _ _ _ h)
def f_X2_changedBy_0 (N : Nat) (A : hP) (x0 : Option Nat) (x1 : Int32) : Option (Int32 × hP) := f_X2_changedBy_4 N N A x0 x1 (0 : Int32) (0 : Int32)
set_option maxRecDepth 20000 in
set_option maxHeartbeats 4000000 in
theorem t_X2_changedBy_0 {l : Launch} {G : gS} (N : Nat) (A : hP) (x0 : Option Nat) (x1 : Int32) (res : Int32 × hP) (h : f_X2_changedBy_0 N A x0 x1 = some res) : AW l mX2_changedBy (g_rm 4 0 0) G (g_Qf G (gi res) 0 0) A 0 0 0 [some (va_rf x0), some (.int x1), none, none] [] := by
  unfold f_X2_changedBy_0 at h
  refine AW_iconst (v := 0) dX2_changedBy_0 (by decide) ?_
  refine AW_istore_n (ls' := [some (va_rf x0), some (.int x1), some (.int (0 : Int32)), none]) dX2_changedBy_1 (c1_i rfl) (by decide) rfl ?_
  refine AW_iconst (v := 0) dX2_changedBy_2 (by decide) ?_
  refine AW_istore_n (ls' := [some (va_rf x0), some (.int x1), some (.int (0 : Int32)), some (.int (0 : Int32))]) dX2_changedBy_3 (c1_i rfl) (by decide) rfl ?_
  exact (t_X2_changedBy_4 N N _ _ _ _ _ _ h)
def f_X2_changedBy (N : Nat) (A : hP) (x0 : Option Nat) (x1 : Int32) : Option (Int32 × hP) := f_X2_changedBy_0 N A x0 x1
set_option maxRecDepth 20000 in
theorem c_X2_changedBy {l : Launch} (N : Nat) (A : hP) (x0 : Option Nat) (x1 : Int32) (res : Int32 × hP) (h : f_X2_changedBy N A x0 x1 = some res) : Ct l mX2_changedBy 4 0 0 A [va_rf x0, .int x1] (gi res) := Ct.of (lv := [(0, va_rf x0), (1, .int x1)]) (ls := [some (va_rf x0), some (.int x1), none, none]) (by decide) (by simp [lv_args, g_cat_rf, cat_i, cat_l]) rfl (by simp [g_cat_rf, cat_i, cat_l]) (fun G => (t_X2_changedBy_0 N A x0 x1 res h))
