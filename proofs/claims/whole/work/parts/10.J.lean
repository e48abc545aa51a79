abbrev mJ6_bitCount_0f7a4 : gM := gMk yJ6_bitCount_0f7a4 cJ6_bitCount_0f7a4 1 (some .int)
def f_J6_bitCount_0f7a4_0 (N : Nat) (A : hP) (x0 : Int32) : Option (Int32 × hP) := some ((((((((x0 - (((x0.toUInt32 >>> ((1 : Int32).toUInt32 &&& Int32.toUInt32 31)).toInt32) &&& (1431655765 : Int32))) &&& (858993459 : Int32)) + ((((x0 - (((x0.toUInt32 >>> ((1 : Int32).toUInt32 &&& Int32.toUInt32 31)).toInt32) &&& (1431655765 : Int32))).toUInt32 >>> ((2 : Int32).toUInt32 &&& Int32.toUInt32 31)).toInt32) &&& (858993459 : Int32))) + (((((x0 - (((x0.toUInt32 >>> ((1 : Int32).toUInt32 &&& Int32.toUInt32 31)).toInt32) &&& (1431655765 : Int32))) &&& (858993459 : Int32)) + ((((x0 - (((x0.toUInt32 >>> ((1 : Int32).toUInt32 &&& Int32.toUInt32 31)).toInt32) &&& (1431655765 : Int32))).toUInt32 >>> ((2 : Int32).toUInt32 &&& Int32.toUInt32 31)).toInt32) &&& (858993459 : Int32))).toUInt32 >>> ((4 : Int32).toUInt32 &&& Int32.toUInt32 31)).toInt32)) &&& (252645135 : Int32)) + (((((((x0 - (((x0.toUInt32 >>> ((1 : Int32).toUInt32 &&& Int32.toUInt32 31)).toInt32) &&& (1431655765 : Int32))) &&& (858993459 : Int32)) + ((((x0 - (((x0.toUInt32 >>> ((1 : Int32).toUInt32 &&& Int32.toUInt32 31)).toInt32) &&& (1431655765 : Int32))).toUInt32 >>> ((2 : Int32).toUInt32 &&& Int32.toUInt32 31)).toInt32) &&& (858993459 : Int32))) + (((((x0 - (((x0.toUInt32 >>> ((1 : Int32).toUInt32 &&& Int32.toUInt32 31)).toInt32) &&& (1431655765 : Int32))) &&& (858993459 : Int32)) + ((((x0 - (((x0.toUInt32 >>> ((1 : Int32).toUInt32 &&& Int32.toUInt32 31)).toInt32) &&& (1431655765 : Int32))).toUInt32 >>> ((2 : Int32).toUInt32 &&& Int32.toUInt32 31)).toInt32) &&& (858993459 : Int32))).toUInt32 >>> ((4 : Int32).toUInt32 &&& Int32.toUInt32 31)).toInt32)) &&& (252645135 : Int32)).toUInt32 >>> ((8 : Int32).toUInt32 &&& Int32.toUInt32 31)).toInt32)) + ((((((((x0 - (((x0.toUInt32 >>> ((1 : Int32).toUInt32 &&& Int32.toUInt32 31)).toInt32) &&& (1431655765 : Int32))) &&& (858993459 : Int32)) + ((((x0 - (((x0.toUInt32 >>> ((1 : Int32).toUInt32 &&& Int32.toUInt32 31)).toInt32) &&& (1431655765 : Int32))).toUInt32 >>> ((2 : Int32).toUInt32 &&& Int32.toUInt32 31)).toInt32) &&& (858993459 : Int32))) + (((((x0 - (((x0.toUInt32 >>> ((1 : Int32).toUInt32 &&& Int32.toUInt32 31)).toInt32) &&& (1431655765 : Int32))) &&& (858993459 : Int32)) + ((((x0 - (((x0.toUInt32 >>> ((1 : Int32).toUInt32 &&& Int32.toUInt32 31)).toInt32) &&& (1431655765 : Int32))).toUInt32 >>> ((2 : Int32).toUInt32 &&& Int32.toUInt32 31)).toInt32) &&& (858993459 : Int32))).toUInt32 >>> ((4 : Int32).toUInt32 &&& Int32.toUInt32 31)).toInt32)) &&& (252645135 : Int32)) + (((((((x0 - (((x0.toUInt32 >>> ((1 : Int32).toUInt32 &&& Int32.toUInt32 31)).toInt32) &&& (1431655765 : Int32))) &&& (858993459 : Int32)) + ((((x0 - (((x0.toUInt32 >>> ((1 : Int32).toUInt32 &&& Int32.toUInt32 31)).toInt32) &&& (1431655765 : Int32))).toUInt32 >>> ((2 : Int32).toUInt32 &&& Int32.toUInt32 31)).toInt32) &&& (858993459 : Int32))) + (((((x0 - (((x0.toUInt32 >>> ((1 : Int32).toUInt32 &&& Int32.toUInt32 31)).toInt32) &&& (1431655765 : Int32))) &&& (858993459 : Int32)) + ((((x0 - (((x0.toUInt32 >>> ((1 : Int32).toUInt32 &&& Int32.toUInt32 31)).toInt32) &&& (1431655765 : Int32))).toUInt32 >>> ((2 : Int32).toUInt32 &&& Int32.toUInt32 31)).toInt32) &&& (858993459 : Int32))).toUInt32 >>> ((4 : Int32).toUInt32 &&& Int32.toUInt32 31)).toInt32)) &&& (252645135 : Int32)).toUInt32 >>> ((8 : Int32).toUInt32 &&& Int32.toUInt32 31)).toInt32)).toUInt32 >>> ((16 : Int32).toUInt32 &&& Int32.toUInt32 31)).toInt32)) &&& (63 : Int32), A)
set_option maxRecDepth 20000 in
set_option maxHeartbeats 4000000 in
theorem t_J6_bitCount_0f7a4_0 {l : Launch} {G : gS} (N : Nat) (A : hP) (x0 : Int32) (res : Int32 × hP) (h : f_J6_bitCount_0f7a4_0 N A x0 = some res) : AW l mJ6_bitCount_0f7a4 (g_rm 0 0 0) G (g_Qf G (gi res) 0 0) A 0 0 0 [some (.int x0)] [] := by
  unfold f_J6_bitCount_0f7a4_0 at h
  refine AW_iload_n dJ6_bitCount_0f7a4_0 rfl ?_
  refine AW_iload_n dJ6_bitCount_0f7a4_1 rfl ?_
  refine AW_iconst (v := 1) dJ6_bitCount_0f7a4_2 (by decide) ?_
  refine AW_iushr dJ6_bitCount_0f7a4_3 ?_
  refine AW_ldcw (v := 1431655765) dJ6_bitCount_0f7a4_4 (List.mem_cons_of_mem _ tK_J6_265) ?_
  refine AW_iand dJ6_bitCount_0f7a4_7 ?_
  refine AW_isub dJ6_bitCount_0f7a4_8 ?_
  refine AW_istore_n (ls' := [some (.int (x0 - (((x0.toUInt32 >>> ((1 : Int32).toUInt32 &&& Int32.toUInt32 31)).toInt32) &&& (1431655765 : Int32))))]) dJ6_bitCount_0f7a4_9 c1_0 (by decide) rfl ?_
  refine AW_iload_n dJ6_bitCount_0f7a4_10 rfl ?_
  refine AW_ldcw (v := 858993459) dJ6_bitCount_0f7a4_11 (List.mem_cons_of_mem _ tK_J6_266) ?_
  refine AW_iand dJ6_bitCount_0f7a4_14 ?_
  refine AW_iload_n dJ6_bitCount_0f7a4_15 rfl ?_
  refine AW_iconst (v := 2) dJ6_bitCount_0f7a4_16 (by decide) ?_
  refine AW_iushr dJ6_bitCount_0f7a4_17 ?_
  refine AW_ldcw (v := 858993459) dJ6_bitCount_0f7a4_18 (List.mem_cons_of_mem _ tK_J6_266) ?_
  refine AW_iand dJ6_bitCount_0f7a4_21 ?_
  refine AW_iadd dJ6_bitCount_0f7a4_22 ?_
  refine AW_istore_n (ls' := [some (.int (((x0 - (((x0.toUInt32 >>> ((1 : Int32).toUInt32 &&& Int32.toUInt32 31)).toInt32) &&& (1431655765 : Int32))) &&& (858993459 : Int32)) + ((((x0 - (((x0.toUInt32 >>> ((1 : Int32).toUInt32 &&& Int32.toUInt32 31)).toInt32) &&& (1431655765 : Int32))).toUInt32 >>> ((2 : Int32).toUInt32 &&& Int32.toUInt32 31)).toInt32) &&& (858993459 : Int32))))]) dJ6_bitCount_0f7a4_23 c1_0 (by decide) rfl ?_
  refine AW_iload_n dJ6_bitCount_0f7a4_24 rfl ?_
  refine AW_iload_n dJ6_bitCount_0f7a4_25 rfl ?_
  refine AW_iconst (v := 4) dJ6_bitCount_0f7a4_26 (by decide) ?_
  refine AW_iushr dJ6_bitCount_0f7a4_27 ?_
  refine AW_iadd dJ6_bitCount_0f7a4_28 ?_
  refine AW_ldcw (v := 252645135) dJ6_bitCount_0f7a4_29 (List.mem_cons_of_mem _ tK_J6_267) ?_
  refine AW_iand dJ6_bitCount_0f7a4_32 ?_
  refine AW_istore_n (ls' := [some (.int (((((x0 - (((x0.toUInt32 >>> ((1 : Int32).toUInt32 &&& Int32.toUInt32 31)).toInt32) &&& (1431655765 : Int32))) &&& (858993459 : Int32)) + ((((x0 - (((x0.toUInt32 >>> ((1 : Int32).toUInt32 &&& Int32.toUInt32 31)).toInt32) &&& (1431655765 : Int32))).toUInt32 >>> ((2 : Int32).toUInt32 &&& Int32.toUInt32 31)).toInt32) &&& (858993459 : Int32))) + (((((x0 - (((x0.toUInt32 >>> ((1 : Int32).toUInt32 &&& Int32.toUInt32 31)).toInt32) &&& (1431655765 : Int32))) &&& (858993459 : Int32)) + ((((x0 - (((x0.toUInt32 >>> ((1 : Int32).toUInt32 &&& Int32.toUInt32 31)).toInt32) &&& (1431655765 : Int32))).toUInt32 >>> ((2 : Int32).toUInt32 &&& Int32.toUInt32 31)).toInt32) &&& (858993459 : Int32))).toUInt32 >>> ((4 : Int32).toUInt32 &&& Int32.toUInt32 31)).toInt32)) &&& (252645135 : Int32)))]) dJ6_bitCount_0f7a4_33 c1_0 (by decide) rfl ?_
  refine AW_iload_n dJ6_bitCount_0f7a4_34 rfl ?_
  refine AW_iload_n dJ6_bitCount_0f7a4_35 rfl ?_
  refine AW_bipush (v := 8) dJ6_bitCount_0f7a4_36 (by decide) ?_
  refine AW_iushr dJ6_bitCount_0f7a4_38 ?_
  refine AW_iadd dJ6_bitCount_0f7a4_39 ?_
  refine AW_istore_n (ls' := [some (.int ((((((x0 - (((x0.toUInt32 >>> ((1 : Int32).toUInt32 &&& Int32.toUInt32 31)).toInt32) &&& (1431655765 : Int32))) &&& (858993459 : Int32)) + ((((x0 - (((x0.toUInt32 >>> ((1 : Int32).toUInt32 &&& Int32.toUInt32 31)).toInt32) &&& (1431655765 : Int32))).toUInt32 >>> ((2 : Int32).toUInt32 &&& Int32.toUInt32 31)).toInt32) &&& (858993459 : Int32))) + (((((x0 - (((x0.toUInt32 >>> ((1 : Int32).toUInt32 &&& Int32.toUInt32 31)).toInt32) &&& (1431655765 : Int32))) &&& (858993459 : Int32)) + ((((x0 - (((x0.toUInt32 >>> ((1 : Int32).toUInt32 &&& Int32.toUInt32 31)).toInt32) &&& (1431655765 : Int32))).toUInt32 >>> ((2 : Int32).toUInt32 &&& Int32.toUInt32 31)).toInt32) &&& (858993459 : Int32))).toUInt32 >>> ((4 : Int32).toUInt32 &&& Int32.toUInt32 31)).toInt32)) &&& (252645135 : Int32)) + (((((((x0 - (((x0.toUInt32 >>> ((1 : Int32).toUInt32 &&& Int32.toUInt32 31)).toInt32) &&& (1431655765 : Int32))) &&& (858993459 : Int32)) + ((((x0 - (((x0.toUInt32 >>> ((1 : Int32).toUInt32 &&& Int32.toUInt32 31)).toInt32) &&& (1431655765 : Int32))).toUInt32 >>> ((2 : Int32).toUInt32 &&& Int32.toUInt32 31)).toInt32) &&& (858993459 : Int32))) + (((((x0 - (((x0.toUInt32 >>> ((1 : Int32).toUInt32 &&& Int32.toUInt32 31)).toInt32) &&& (1431655765 : Int32))) &&& (858993459 : Int32)) + ((((x0 - (((x0.toUInt32 >>> ((1 : Int32).toUInt32 &&& Int32.toUInt32 31)).toInt32) &&& (1431655765 : Int32))).toUInt32 >>> ((2 : Int32).toUInt32 &&& Int32.toUInt32 31)).toInt32) &&& (858993459 : Int32))).toUInt32 >>> ((4 : Int32).toUInt32 &&& Int32.toUInt32 31)).toInt32)) &&& (252645135 : Int32)).toUInt32 >>> ((8 : Int32).toUInt32 &&& Int32.toUInt32 31)).toInt32)))]) dJ6_bitCount_0f7a4_40 c1_0 (by decide) rfl ?_
  refine AW_iload_n dJ6_bitCount_0f7a4_41 rfl ?_
  refine AW_iload_n dJ6_bitCount_0f7a4_42 rfl ?_
  refine AW_bipush (v := 16) dJ6_bitCount_0f7a4_43 (by decide) ?_
  refine AW_iushr dJ6_bitCount_0f7a4_45 ?_
  refine AW_iadd dJ6_bitCount_0f7a4_46 ?_
  refine AW_istore_n (ls' := [some (.int (((((((x0 - (((x0.toUInt32 >>> ((1 : Int32).toUInt32 &&& Int32.toUInt32 31)).toInt32) &&& (1431655765 : Int32))) &&& (858993459 : Int32)) + ((((x0 - (((x0.toUInt32 >>> ((1 : Int32).toUInt32 &&& Int32.toUInt32 31)).toInt32) &&& (1431655765 : Int32))).toUInt32 >>> ((2 : Int32).toUInt32 &&& Int32.toUInt32 31)).toInt32) &&& (858993459 : Int32))) + (((((x0 - (((x0.toUInt32 >>> ((1 : Int32).toUInt32 &&& Int32.toUInt32 31)).toInt32) &&& (1431655765 : Int32))) &&& (858993459 : Int32)) + ((((x0 - (((x0.toUInt32 >>> ((1 : Int32).toUInt32 &&& Int32.toUInt32 31)).toInt32) &&& (1431655765 : Int32))).toUInt32 >>> ((2 : Int32).toUInt32 &&& Int32.toUInt32 31)).toInt32) &&& (858993459 : Int32))).toUInt32 >>> ((4 : Int32).toUInt32 &&& Int32.toUInt32 31)).toInt32)) &&& (252645135 : Int32)) + (((((((x0 - (((x0.toUInt32 >>> ((1 : Int32).toUInt32 &&& Int32.toUInt32 31)).toInt32) &&& (1431655765 : Int32))) &&& (858993459 : Int32)) + ((((x0 - (((x0.toUInt32 >>> ((1 : Int32).toUInt32 &&& Int32.toUInt32 31)).toInt32) &&& (1431655765 : Int32))).toUInt32 >>> ((2 : Int32).toUInt32 &&& Int32.toUInt32 31)).toInt32) &&& (858993459 : Int32))) + (((((x0 - (((x0.toUInt32 >>> ((1 : Int32).toUInt32 &&& Int32.toUInt32 31)).toInt32) &&& (1431655765 : Int32))) &&& (858993459 : Int32)) + ((((x0 - (((x0.toUInt32 >>> ((1 : Int32).toUInt32 &&& Int32.toUInt32 31)).toInt32) &&& (1431655765 : Int32))).toUInt32 >>> ((2 : Int32).toUInt32 &&& Int32.toUInt32 31)).toInt32) &&& (858993459 : Int32))).toUInt32 >>> ((4 : Int32).toUInt32 &&& Int32.toUInt32 31)).toInt32)) &&& (252645135 : Int32)).toUInt32 >>> ((8 : Int32).toUInt32 &&& Int32.toUInt32 31)).toInt32)) + ((((((((x0 - (((x0.toUInt32 >>> ((1 : Int32).toUInt32 &&& Int32.toUInt32 31)).toInt32) &&& (1431655765 : Int32))) &&& (858993459 : Int32)) + ((((x0 - (((x0.toUInt32 >>> ((1 : Int32).toUInt32 &&& Int32.toUInt32 31)).toInt32) &&& (1431655765 : Int32))).toUInt32 >>> ((2 : Int32).toUInt32 &&& Int32.toUInt32 31)).toInt32) &&& (858993459 : Int32))) + (((((x0 - (((x0.toUInt32 >>> ((1 : Int32).toUInt32 &&& Int32.toUInt32 31)).toInt32) &&& (1431655765 : Int32))) &&& (858993459 : Int32)) + ((((x0 - (((x0.toUInt32 >>> ((1 : Int32).toUInt32 &&& Int32.toUInt32 31)).toInt32) &&& (1431655765 : Int32))).toUInt32 >>> ((2 : Int32).toUInt32 &&& Int32.toUInt32 31)).toInt32) &&& (858993459 : Int32))).toUInt32 >>> ((4 : Int32).toUInt32 &&& Int32.toUInt32 31)).toInt32)) &&& (252645135 : Int32)) + (((((((x0 - (((x0.toUInt32 >>> ((1 : Int32).toUInt32 &&& Int32.toUInt32 31)).toInt32) &&& (1431655765 : Int32))) &&& (858993459 : Int32)) + ((((x0 - (((x0.toUInt32 >>> ((1 : Int32).toUInt32 &&& Int32.toUInt32 31)).toInt32) &&& (1431655765 : Int32))).toUInt32 >>> ((2 : Int32).toUInt32 &&& Int32.toUInt32 31)).toInt32) &&& (858993459 : Int32))) + (((((x0 - (((x0.toUInt32 >>> ((1 : Int32).toUInt32 &&& Int32.toUInt32 31)).toInt32) &&& (1431655765 : Int32))) &&& (858993459 : Int32)) + ((((x0 - (((x0.toUInt32 >>> ((1 : Int32).toUInt32 &&& Int32.toUInt32 31)).toInt32) &&& (1431655765 : Int32))).toUInt32 >>> ((2 : Int32).toUInt32 &&& Int32.toUInt32 31)).toInt32) &&& (858993459 : Int32))).toUInt32 >>> ((4 : Int32).toUInt32 &&& Int32.toUInt32 31)).toInt32)) &&& (252645135 : Int32)).toUInt32 >>> ((8 : Int32).toUInt32 &&& Int32.toUInt32 31)).toInt32)).toUInt32 >>> ((16 : Int32).toUInt32 &&& Int32.toUInt32 31)).toInt32)))]) dJ6_bitCount_0f7a4_47 c1_0 (by decide) rfl ?_
  refine AW_iload_n dJ6_bitCount_0f7a4_48 rfl ?_
  refine AW_bipush (v := 63) dJ6_bitCount_0f7a4_49 (by decide) ?_
  refine AW_iand dJ6_bitCount_0f7a4_51 ?_
  exact AW_iret dJ6_bitCount_0f7a4_52 rfl ⟨Nat.zero_le _, Nat.zero_le _⟩ h
def f_J6_bitCount_0f7a4 (N : Nat) (A : hP) (x0 : Int32) : Option (Int32 × hP) := f_J6_bitCount_0f7a4_0 N A x0
set_option maxRecDepth 20000 in
theorem c_J6_bitCount_0f7a4 {l : Launch} (N : Nat) (A : hP) (x0 : Int32) (res : Int32 × hP) (h : f_J6_bitCount_0f7a4 N A x0 = some res) : Ct l mJ6_bitCount_0f7a4 0 0 0 A [.int x0] (gi res) := Ct.of (lv := [(0, .int x0)]) (ls := [some (.int x0)]) (by decide) (by simp [lv_args, g_cat_rf, cat_i, cat_l]) rfl (by simp [g_cat_rf, cat_i, cat_l]) (fun G => (t_J6_bitCount_0f7a4_0 N A x0 res h))
abbrev mJ0_coder_7d493 : gM := gMk yJ0_coder_7d493 cJ0_coder_7d493 1 (some .byte)
def f_J0_coder_7d493_14 (N : Nat) (A : hP) (s0 : Int32) : Option (Int32 × hP) := if narrow .byte (.int s0) = .int s0 then some (s0, A) else none
set_option maxRecDepth 20000 in
set_option maxHeartbeats 4000000 in
theorem t_J0_coder_7d493_14 {l : Launch} {G : gS} (N : Nat) (A : hP) (s0 : Int32) (res : Int32 × hP) (h : f_J0_coder_7d493_14 N A s0 = some res) : AW l mJ0_coder_7d493 (g_rm 0 0 0) G (g_Qf G (gi res) 0 0) A 0 0 14 [none] [.int s0] := by
  unfold f_J0_coder_7d493_14 at h
  exact AW_nret dJ0_coder_7d493_14 rfl ⟨Nat.zero_le _, Nat.zero_le _⟩ h
def f_J0_coder_7d493_0 (N : Nat) (A : hP) (x0 : Option Nat) : Option (Int32 × hP) := if (1 : Int32) = (0) then (f_J0_coder_7d493_14 N A (1 : Int32)) else ((oSk x0).bind fun v1 => f_J0_coder_7d493_14 N A v1)
set_option maxRecDepth 20000 in
set_option maxHeartbeats 4000000 in
theorem t_J0_coder_7d493_0 {l : Launch} {G : gS} (N : Nat) (A : hP) (x0 : Option Nat) (res : Int32 × hP) (h : f_J0_coder_7d493_0 N A x0 = some res) : AW l mJ0_coder_7d493 (g_rm 0 0 0) G (g_Qf G (gi res) 0 0) A 0 0 0 [some (va_rf x0)] [] := by
  unfold f_J0_coder_7d493_0 at h
  refine AW_gets1 rfl dJ0_coder_7d493_0 (List.mem_cons_of_mem _ tF_J0_38) ?_
  refine AW_if_eq (tgt := 13) dJ0_coder_7d493_3 (by decide) h (fun _ h => ?_) (fun _ h => ?_)
  · refine AW_iconst (v := 1) dJ0_coder_7d493_13 (by decide) ?_
    exact AW_fewer (fw_d fw_n) (t_J0_coder_7d493_14 N _ _ _ h)
  · refine AW_aload_n dJ0_coder_7d493_6 rfl ?_
    refine AW_sk dJ0_coder_7d493_7 (List.mem_cons_of_mem _ tF_J0_15) h (fun v1 _ h => ?_)
    refine AW_goto (tgt := 14) dJ0_coder_7d493_10 (by decide) ?_
    exact AW_fewer (fw_d fw_n) (t_J0_coder_7d493_14 N _ _ _ h)
def f_J0_coder_7d493 (N : Nat) (A : hP) (x0 : Option Nat) : Option (Int32 × hP) := f_J0_coder_7d493_0 N A x0
set_option maxRecDepth 20000 in
theorem c_J0_coder_7d493 {l : Launch} (N : Nat) (A : hP) (x0 : Option Nat) (res : Int32 × hP) (h : f_J0_coder_7d493 N A x0 = some res) : Ct l mJ0_coder_7d493 0 0 0 A [va_rf x0] (gi res) := Ct.of (lv := [(0, va_rf x0)]) (ls := [some (va_rf x0)]) (by decide) (by simp [lv_args, g_cat_rf, cat_i, cat_l]) rfl (by simp [g_cat_rf, cat_i, cat_l]) (fun G => (t_J0_coder_7d493_0 N A x0 res h))
abbrev mJ0_isLatin1_aae02 : gM := gMk yJ0_isLatin1_aae02 cJ0_isLatin1_aae02 1 (some .boolean)
def f_J0_isLatin1_aae02_18 (N : Nat) (A : hP) (s0 : Int32) : Option (Int32 × hP) := if s0 = 0 ∨ s0 = 1 then some (s0, A) else none
set_option maxRecDepth 20000 in
set_option maxHeartbeats 4000000 in
theorem t_J0_isLatin1_aae02_18 {l : Launch} {G : gS} (N : Nat) (A : hP) (s0 : Int32) (res : Int32 × hP) (h : f_J0_isLatin1_aae02_18 N A s0 = some res) : AW l mJ0_isLatin1_aae02 (g_rm 0 0 0) G (g_Qf G (gi res) 0 0) A 0 0 18 [none] [.int s0] := by
  unfold f_J0_isLatin1_aae02_18 at h
  exact AW_zret dJ0_isLatin1_aae02_18 rfl ⟨Nat.zero_le _, Nat.zero_le _⟩ h
def f_J0_isLatin1_aae02_17 (N : Nat) (A : hP) : Option (Int32 × hP) := f_J0_isLatin1_aae02_18 N A (0 : Int32)
set_option maxRecDepth 20000 in
set_option maxHeartbeats 4000000 in
theorem t_J0_isLatin1_aae02_17 {l : Launch} {G : gS} (N : Nat) (A : hP) (res : Int32 × hP) (h : f_J0_isLatin1_aae02_17 N A  = some res) : AW l mJ0_isLatin1_aae02 (g_rm 0 0 0) G (g_Qf G (gi res) 0 0) A 0 0 17 [none] [] := by
  unfold f_J0_isLatin1_aae02_17 at h
  refine AW_iconst (v := 0) dJ0_isLatin1_aae02_17 (by decide) ?_
  exact (t_J0_isLatin1_aae02_18 N _ _ _ h)
def f_J0_isLatin1_aae02_0 (N : Nat) (A : hP) (x0 : Option Nat) : Option (Int32 × hP) := if (1 : Int32) = (0) then (f_J0_isLatin1_aae02_17 N A) else ((oSk x0).bind fun v1 => if v1 = (0) then (f_J0_isLatin1_aae02_18 N A (1 : Int32)) else (f_J0_isLatin1_aae02_17 N A))
set_option maxRecDepth 20000 in
set_option maxHeartbeats 4000000 in
theorem t_J0_isLatin1_aae02_0 {l : Launch} {G : gS} (N : Nat) (A : hP) (x0 : Option Nat) (res : Int32 × hP) (h : f_J0_isLatin1_aae02_0 N A x0 = some res) : AW l mJ0_isLatin1_aae02 (g_rm 0 0 0) G (g_Qf G (gi res) 0 0) A 0 0 0 [some (va_rf x0)] [] := by
  unfold f_J0_isLatin1_aae02_0 at h
  refine AW_gets1 rfl dJ0_isLatin1_aae02_0 (List.mem_cons_of_mem _ tF_J0_38) ?_
  refine AW_if_eq (tgt := 17) dJ0_isLatin1_aae02_3 (by decide) h (fun _ h => ?_) (fun _ h => ?_)
  · exact AW_fewer (fw_d fw_n) (t_J0_isLatin1_aae02_17 N _ _ h)
  · refine AW_aload_n dJ0_isLatin1_aae02_6 rfl ?_
    refine AW_sk dJ0_isLatin1_aae02_7 (List.mem_cons_of_mem _ tF_J0_15) h (fun v1 _ h => ?_)
    refine AW_if_ne (tgt := 17) dJ0_isLatin1_aae02_10 (by decide) h (fun _ h => ?_) (fun _ h => ?_)
    · exact AW_fewer (fw_d fw_n) (t_J0_isLatin1_aae02_17 N _ _ h)
    · refine AW_iconst (v := 1) dJ0_isLatin1_aae02_13 (by decide) ?_
      refine AW_goto (tgt := 18) dJ0_isLatin1_aae02_14 (by decide) ?_
      exact AW_fewer (fw_d fw_n) (t_J0_isLatin1_aae02_18 N _ _ _ h)
def f_J0_isLatin1_aae02 (N : Nat) (A : hP) (x0 : Option Nat) : Option (Int32 × hP) := f_J0_isLatin1_aae02_0 N A x0
set_option maxRecDepth 20000 in
theorem c_J0_isLatin1_aae02 {l : Launch} (N : Nat) (A : hP) (x0 : Option Nat) (res : Int32 × hP) (h : f_J0_isLatin1_aae02 N A x0 = some res) : Ct l mJ0_isLatin1_aae02 0 0 0 A [va_rf x0] (gi res) := Ct.of (lv := [(0, va_rf x0)]) (ls := [some (va_rf x0)]) (by decide) (by simp [lv_args, g_cat_rf, cat_i, cat_l]) rfl (by simp [g_cat_rf, cat_i, cat_l]) (fun G => (t_J0_isLatin1_aae02_0 N A x0 res h))
abbrev mJ0_length_8abf5 : gM := gMk yJ0_length_8abf5 cJ0_length_8abf5 1 (some .int)
def f_J0_length_8abf5_0 (N : Nat) (A : hP) (x0 : Option Nat) : Option (Int32 × hP) := (oSv x0).bind fun v1 => (oVn v1).bind fun v2 => (oSx x0).bind fun _ => (f_J0_coder_7d493 N A x0).bind fun q3 => some (v2 >>> (q3.1 &&& 31), q3.2)
set_option maxRecDepth 20000 in
set_option maxHeartbeats 4000000 in
theorem t_J0_length_8abf5_0 {l : Launch} {G : gS} (N : Nat) (A : hP) (x0 : Option Nat) (res : Int32 × hP) (h : f_J0_length_8abf5_0 N A x0 = some res) : AW l mJ0_length_8abf5 (g_rm 1 0 0) G (g_Qf G (gi res) 0 0) A 0 0 0 [some (va_rf x0)] [] := by
  unfold f_J0_length_8abf5_0 at h
  refine AW_aload_n dJ0_length_8abf5_0 rfl ?_
  refine AW_sv dJ0_length_8abf5_1 (List.mem_cons_of_mem _ tF_J0_9) h (fun v1 _ h => ?_)
  refine AW_vn dJ0_length_8abf5_4 h (fun v2 _ h => ?_)
  refine AW_aload_n dJ0_length_8abf5_5 rfl ?_
  refine AW_callWi (y := yJ0_coder_7d493) (cc := cJ0_coder_7d493) (n := 1) (d := 0) (mc := 0) (ms := 0) (np := 0) (ret := (some .byte)) (As := []) (st := [.int v2]) dJ0_length_8abf5_6 gT_s tM_J0_335 tI_J0_coder_7d493 tSel_J0_J0_J0_coder_7d493 tIni_J0 tY_J0_coder_7d493 (by decide +kernel) ⟨by decide, by decide⟩ ⟨by decide, by decide⟩ (Nat.le_of_ble_eq_true rfl) rfl h (fun q hq => c_J0_coder_7d493 N _ _ q hq) (fun q3 _ h => ?_)
  refine AW_ishr dJ0_length_8abf5_9 ?_
  exact AW_iret dJ0_length_8abf5_10 rfl ⟨Nat.zero_le _, Nat.zero_le _⟩ h
def f_J0_length_8abf5 (N : Nat) (A : hP) (x0 : Option Nat) : Option (Int32 × hP) := f_J0_length_8abf5_0 N A x0
set_option maxRecDepth 20000 in
theorem c_J0_length_8abf5 {l : Launch} (N : Nat) (A : hP) (x0 : Option Nat) (res : Int32 × hP) (h : f_J0_length_8abf5 N A x0 = some res) : Ct l mJ0_length_8abf5 1 0 0 A [va_rf x0] (gi res) := Ct.of (lv := [(0, va_rf x0)]) (ls := [some (va_rf x0)]) (by decide) (by simp [lv_args, g_cat_rf, cat_i, cat_l]) rfl (by simp [g_cat_rf, cat_i, cat_l]) (fun G => (t_J0_length_8abf5_0 N A x0 res h))
abbrev mJ3_checkIndex_8e157 : gM := gMk yJ3_checkIndex_8e157 cJ3_checkIndex_8e157 3 (some .int)
def f_J3_checkIndex_8e157_0 (N : Nat) (A : hP) (x0 : Int32) (x1 : Int32) : Option (Int32 × hP) := if x0 < (0) then none else (if x0 < x1 then (some (x0, A)) else none)
set_option maxRecDepth 20000 in
set_option maxHeartbeats 4000000 in
theorem t_J3_checkIndex_8e157_0 {l : Launch} {G : gS} (N : Nat) (A : hP) (x0 : Int32) (x1 : Int32) (res : Int32 × hP) (h : f_J3_checkIndex_8e157_0 N A x0 x1 = some res) : AW l mJ3_checkIndex_8e157 (g_rm 0 0 0) G (g_Qf G (gi res) 0 0) A 0 0 0 [some (.int x0), some (.int x1), none] [] := by
  unfold f_J3_checkIndex_8e157_0 at h
  refine AW_iload_n dJ3_checkIndex_8e157_0 rfl ?_
  refine AW_if_lt (tgt := 9) dJ3_checkIndex_8e157_1 (by decide) h (fun _ h => ?_) (fun _ h => ?_)
  · cases h
  · refine AW_iload_n dJ3_checkIndex_8e157_4 rfl ?_
    refine AW_iload_n dJ3_checkIndex_8e157_5 rfl ?_
    refine AW_icmp_lt (tgt := 16) dJ3_checkIndex_8e157_6 (by decide) h (fun _ h => ?_) (fun _ h => ?_)
    · refine AW_iload_n dJ3_checkIndex_8e157_16 rfl ?_
      exact AW_iret dJ3_checkIndex_8e157_17 rfl ⟨Nat.zero_le _, Nat.zero_le _⟩ h
    · cases h
def f_J3_checkIndex_8e157 (N : Nat) (A : hP) (x0 : Int32) (x1 : Int32) (x2 : Option Nat) : Option (Int32 × hP) := f_J3_checkIndex_8e157_0 N A x0 x1
set_option maxRecDepth 20000 in
theorem c_J3_checkIndex_8e157 {l : Launch} (N : Nat) (A : hP) (x0 : Int32) (x1 : Int32) (x2 : Option Nat) (res : Int32 × hP) (h : f_J3_checkIndex_8e157 N A x0 x1 x2 = some res) : Ct l mJ3_checkIndex_8e157 0 0 0 A [.int x0, .int x1, va_rf x2] (gi res) := Ct.of (lv := [(0, .int x0), (1, .int x1), (2, va_rf x2)]) (ls := [some (.int x0), some (.int x1), some (va_rf x2)]) (by decide) (by simp [lv_args, g_cat_rf, cat_i, cat_l]) rfl (by simp [g_cat_rf, cat_i, cat_l]) (fun G => AW_fewer (fw_k (fw_k (fw_d fw_n))) (t_J3_checkIndex_8e157_0 N A x0 x1 res h))
abbrev mJ0_checkIndex_df160 : gM := gMk yJ0_checkIndex_df160 cJ0_checkIndex_df160 2 none
def f_J0_checkIndex_df160_0 (N : Nat) (A : hP) (x0 : Int32) (x1 : Int32) : Option (Unit × hP) := (f_J3_checkIndex_8e157 N A x0 x1 none).bind fun q1 => some ((), q1.2)
set_option maxRecDepth 20000 in
set_option maxHeartbeats 4000000 in
theorem t_J0_checkIndex_df160_0 {l : Launch} {G : gS} (N : Nat) (A : hP) (x0 : Int32) (x1 : Int32) (res : Unit × hP) (h : f_J0_checkIndex_df160_0 N A x0 x1 = some res) : AW l mJ0_checkIndex_df160 (g_rm 1 0 0) G (g_Qf G (gu res) 0 0) A 0 0 0 [some (.int x0), some (.int x1)] [] := by
  unfold f_J0_checkIndex_df160_0 at h
  refine AW_iload_n dJ0_checkIndex_df160_0 rfl ?_
  refine AW_iload_n dJ0_checkIndex_df160_1 rfl ?_
  refine AW_getsq rfl dJ0_checkIndex_df160_2 (List.mem_cons_of_mem _ tF_J0_1053) (fun z => ?_)
  refine AW_callSi (y := yJ3_checkIndex_8e157) (cc := cJ3_checkIndex_8e157) (n := 3) (d := 0) (mc := 0) (ms := 0) (np := 3) (ret := (some .int)) (As := [.int x0, .int x1, va_rf z]) (st := []) dJ0_checkIndex_df160_5 gT_s tM_J0_1059 tS_J3_checkIndex_8e157 tIni_J3 tY_J3_checkIndex_8e157 (by decide +kernel) ⟨by decide, by decide⟩ ⟨by decide, by decide⟩ (Nat.le_of_ble_eq_true rfl) rfl h (fun q hq => c_J3_checkIndex_8e157 N _ _ _ _ q hq) (fun q1 _ h => ?_)
  refine AW_pop dJ0_checkIndex_df160_8 rfl ?_
  exact AW_vret dJ0_checkIndex_df160_9 rfl ⟨Nat.zero_le _, Nat.zero_le _⟩ h
def f_J0_checkIndex_df160 (N : Nat) (A : hP) (x0 : Int32) (x1 : Int32) : Option (Unit × hP) := f_J0_checkIndex_df160_0 N A x0 x1
set_option maxRecDepth 20000 in
theorem c_J0_checkIndex_df160 {l : Launch} (N : Nat) (A : hP) (x0 : Int32) (x1 : Int32) (res : Unit × hP) (h : f_J0_checkIndex_df160 N A x0 x1 = some res) : Ct l mJ0_checkIndex_df160 1 0 0 A [.int x0, .int x1] (gu res) := Ct.of (lv := [(0, .int x0), (1, .int x1)]) (ls := [some (.int x0), some (.int x1)]) (by decide) (by simp [lv_args, g_cat_rf, cat_i, cat_l]) rfl (by simp [g_cat_rf, cat_i, cat_l]) (fun G => (t_J0_checkIndex_df160_0 N A x0 x1 res h))
abbrev mJ1_charAt_3b067 : gM := gMk yJ1_charAt_3b067 cJ1_charAt_3b067 2 (some .char)
def f_J1_charAt_3b067_0 (N : Nat) (A : hP) (x0 : Option Nat) (x1 : Int32) : Option (Int32 × hP) := (oVn x0).bind fun v1 => (f_J0_checkIndex_df160 N A x1 v1).bind fun q2 => (oVa x0 x1).bind fun v3 => if narrow .char (.int (((v3 &&& (255 : Int32)).toUInt32 % 65536).toInt32)) = .int (((v3 &&& (255 : Int32)).toUInt32 % 65536).toInt32) then some (((v3 &&& (255 : Int32)).toUInt32 % 65536).toInt32, q2.2) else none
set_option maxRecDepth 20000 in
set_option maxHeartbeats 4000000 in
theorem t_J1_charAt_3b067_0 {l : Launch} {G : gS} (N : Nat) (A : hP) (x0 : Option Nat) (x1 : Int32) (res : Int32 × hP) (h : f_J1_charAt_3b067_0 N A x0 x1 = some res) : AW l mJ1_charAt_3b067 (g_rm 2 0 0) G (g_Qf G (gi res) 0 0) A 0 0 0 [some (va_rf x0), some (.int x1)] [] := by
  unfold f_J1_charAt_3b067_0 at h
  refine AW_iload_n dJ1_charAt_3b067_0 rfl ?_
  refine AW_aload_n dJ1_charAt_3b067_1 rfl ?_
  refine AW_vn dJ1_charAt_3b067_2 h (fun v1 _ h => ?_)
  refine AW_callSu (y := yJ0_checkIndex_df160) (cc := cJ0_checkIndex_df160) (n := 2) (d := 1) (mc := 0) (ms := 0) (np := 2) (ret := none) (As := [.int x1, .int v1]) (st := []) dJ1_charAt_3b067_3 gT_s tM_J1_9 tS_J0_checkIndex_df160 tIni_J0 tY_J0_checkIndex_df160 (by decide +kernel) ⟨by decide, by decide⟩ ⟨by decide, by decide⟩ (Nat.le_of_ble_eq_true rfl) rfl h (fun q hq => c_J0_checkIndex_df160 N _ _ _ q hq) (fun q2 _ h => ?_)
  refine AW_aload_n dJ1_charAt_3b067_6 rfl ?_
  refine AW_iload_n dJ1_charAt_3b067_7 rfl ?_
  refine AW_va dJ1_charAt_3b067_8 h (fun v3 _ h => ?_)
  refine AW_sipush (v := 255) dJ1_charAt_3b067_9 (by decide) ?_
  refine AW_iand dJ1_charAt_3b067_12 ?_
  refine AW_i2c dJ1_charAt_3b067_13 ?_
  exact AW_nret dJ1_charAt_3b067_14 rfl ⟨Nat.zero_le _, Nat.zero_le _⟩ h
def f_J1_charAt_3b067 (N : Nat) (A : hP) (x0 : Option Nat) (x1 : Int32) : Option (Int32 × hP) := f_J1_charAt_3b067_0 N A x0 x1
set_option maxRecDepth 20000 in
theorem c_J1_charAt_3b067 {l : Launch} (N : Nat) (A : hP) (x0 : Option Nat) (x1 : Int32) (res : Int32 × hP) (h : f_J1_charAt_3b067 N A x0 x1 = some res) : Ct l mJ1_charAt_3b067 2 0 0 A [va_rf x0, .int x1] (gi res) := Ct.of (lv := [(0, va_rf x0), (1, .int x1)]) (ls := [some (va_rf x0), some (.int x1)]) (by decide) (by simp [lv_args, g_cat_rf, cat_i, cat_l]) rfl (by simp [g_cat_rf, cat_i, cat_l]) (fun G => (t_J1_charAt_3b067_0 N A x0 x1 res h))
abbrev mJ0_charAt_5068e : gM := gMk yJ0_charAt_5068e cJ0_charAt_5068e 2 (some .char)
def f_J0_charAt_5068e_0 (N : Nat) (A : hP) (x0 : Option Nat) (x1 : Int32) : Option (Int32 × hP) := (oSx x0).bind fun _ => (f_J0_isLatin1_aae02 N A x0).bind fun q1 => if q1.1 = (0) then none else ((oSv x0).bind fun v2 => (f_J1_charAt_3b067 N q1.2 v2 x1).bind fun q3 => if narrow .char (.int q3.1) = .int q3.1 then some (q3.1, q3.2) else none)
set_option maxRecDepth 20000 in
set_option maxHeartbeats 4000000 in
theorem t_J0_charAt_5068e_0 {l : Launch} {G : gS} (N : Nat) (A : hP) (x0 : Option Nat) (x1 : Int32) (res : Int32 × hP) (h : f_J0_charAt_5068e_0 N A x0 x1 = some res) : AW l mJ0_charAt_5068e (g_rm 3 0 0) G (g_Qf G (gi res) 0 0) A 0 0 0 [some (va_rf x0), some (.int x1)] [] := by
  unfold f_J0_charAt_5068e_0 at h
  refine AW_aload_n dJ0_charAt_5068e_0 rfl ?_
  refine AW_callWi (y := yJ0_isLatin1_aae02) (cc := cJ0_isLatin1_aae02) (n := 1) (d := 0) (mc := 0) (ms := 0) (np := 0) (ret := (some .boolean)) (As := []) (st := []) dJ0_charAt_5068e_1 gT_s tM_J0_492 tI_J0_isLatin1_aae02 tSel_J0_J0_J0_isLatin1_aae02 tIni_J0 tY_J0_isLatin1_aae02 (by decide +kernel) ⟨by decide, by decide⟩ ⟨by decide, by decide⟩ (Nat.le_of_ble_eq_true rfl) rfl h (fun q hq => c_J0_isLatin1_aae02 N _ _ q hq) (fun q1 _ h => ?_)
  refine AW_if_eq (tgt := 16) dJ0_charAt_5068e_4 (by decide) h (fun _ h => ?_) (fun _ h => ?_)
  · cases h
  · refine AW_aload_n dJ0_charAt_5068e_7 rfl ?_
    refine AW_sv dJ0_charAt_5068e_8 (List.mem_cons_of_mem _ tF_J0_9) h (fun v2 _ h => ?_)
    refine AW_iload_n dJ0_charAt_5068e_11 rfl ?_
    refine AW_callSi (y := yJ1_charAt_3b067) (cc := cJ1_charAt_3b067) (n := 2) (d := 2) (mc := 0) (ms := 0) (np := 2) (ret := (some .char)) (As := [va_rf v2, .int x1]) (st := []) dJ0_charAt_5068e_12 gT_s tM_J0_495 tS_J1_charAt_3b067 tIni_J1 tY_J1_charAt_3b067 (by decide +kernel) ⟨by decide, by decide⟩ ⟨by decide, by decide⟩ (Nat.le_of_ble_eq_true rfl) rfl h (fun q hq => c_J1_charAt_3b067 N _ _ _ q hq) (fun q3 _ h => ?_)
    exact AW_nret dJ0_charAt_5068e_15 rfl ⟨Nat.zero_le _, Nat.zero_le _⟩ h
def f_J0_charAt_5068e (N : Nat) (A : hP) (x0 : Option Nat) (x1 : Int32) : Option (Int32 × hP) := f_J0_charAt_5068e_0 N A x0 x1
set_option maxRecDepth 20000 in
theorem c_J0_charAt_5068e {l : Launch} (N : Nat) (A : hP) (x0 : Option Nat) (x1 : Int32) (res : Int32 × hP) (h : f_J0_charAt_5068e N A x0 x1 = some res) : Ct l mJ0_charAt_5068e 3 0 0 A [va_rf x0, .int x1] (gi res) := Ct.of (lv := [(0, va_rf x0), (1, .int x1)]) (ls := [some (va_rf x0), some (.int x1)]) (by decide) (by simp [lv_args, g_cat_rf, cat_i, cat_l]) rfl (by simp [g_cat_rf, cat_i, cat_l]) (fun G => (t_J0_charAt_5068e_0 N A x0 x1 res h))
