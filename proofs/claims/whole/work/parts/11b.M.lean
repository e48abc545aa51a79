abbrev mX12_readThing : gM := gMk yX12_readThing cX12_readThing 3 none
def f_X12_readThing_99 (N : Nat) (A : hP) : Option (Unit × hP) := some ((), A)
set_option maxRecDepth 20000 in
set_option maxHeartbeats 4000000 in
theorem t_X12_readThing_99 {l : Launch} {G : gS} (N : Nat) (A : hP) (res : Unit × hP) (h : f_X12_readThing_99 N A  = some res) : AW l mX12_readThing (g_rm 4 0 0) G (g_Qf G (gu res) 0 0) A 0 0 99 [none, none, none] [] := by
  unfold f_X12_readThing_99 at h
  exact AW_vret dX12_readThing_99 rfl ⟨Nat.zero_le _, Nat.zero_le _⟩ h
def f_X12_readThing_36 (N : Nat) (A : hP) (x0 : Option Nat) (x1 : Int32) : Option (Unit × hP) := (oCk A x0 11).bind fun _ => (f_X12_number N A x0 (0 : Int32) (7 : Int32)).bind fun q1 => (oCk q1.2 x0 11).bind fun _ => (f_X12_mustEnd N q1.2 x0).bind fun q2 => (oI q2.2 x0 11 15).bind fun v3 => if v3 = (0) then ((oR q2.2 x0 11 6).bind fun v4 => (oR q2.2 x0 11 6).bind fun v5 => (oA q2.2 v5 0 (3 : Int32)).bind fun v6 => (oS q2.2 v4 0 ((5 : Int32) + ((2 : Int32) * v6)) x1).bind fun A7 => (oR A7 x0 11 6).bind fun v8 => (oR A7 x0 11 6).bind fun v9 => (oA A7 v9 0 (3 : Int32)).bind fun v10 => (oS A7 v8 0 (((5 : Int32) + ((2 : Int32) * v10)) + (1 : Int32)) q1.1).bind fun A11 => (oR A11 x0 11 6).bind fun v12 => (oA A11 v12 0 (3 : Int32)).bind fun v13 => (oS A11 v12 0 (3 : Int32) (v13 + (1 : Int32))).bind fun A14 => f_X12_readThing_99 N A14) else (f_X12_readThing_99 N q2.2)
set_option maxRecDepth 20000 in
set_option maxHeartbeats 4000000 in
theorem t_X12_readThing_36 {l : Launch} {G : gS} (N : Nat) (A : hP) (x0 : Option Nat) (x1 : Int32) (res : Unit × hP) (h : f_X12_readThing_36 N A x0 x1 = some res) : AW l mX12_readThing (g_rm 4 0 0) G (g_Qf G (gu res) 0 0) A 0 0 36 [some (va_rf x0), some (.int x1), none] [] := by
  unfold f_X12_readThing_36 at h
  refine AW_aload_n dX12_readThing_36 rfl ?_
  refine AW_iconst (v := 0) dX12_readThing_37 (by decide) ?_
  refine AW_bipush (v := 7) dX12_readThing_38 (by decide) ?_
  refine AW_callVi (y := yX12_number) (cc := cX12_number) (n := 4) (d := 3) (mc := 0) (ms := 0) (np := 2) (ret := (some .int)) (As := [.int (0 : Int32), .int (7 : Int32)]) (st := []) (ci := 11) dX12_readThing_40 gT_s rfl tM_X12_148 tI_X12_number selp_X12_number tIni_X12 tY_X12_number (by decide +kernel) ⟨by decide, by decide⟩ ⟨by decide, by decide⟩ (Nat.le_of_ble_eq_true rfl) rfl h (fun q hq => c_X12_number N _ _ _ _ q hq) (fun q1 _ h => ?_)
  refine AW_istore_n (ls' := [some (va_rf x0), some (.int x1), some (.int q1.1)]) dX12_readThing_43 (c1_i rfl) (by decide) rfl ?_
  refine AW_aload_n dX12_readThing_44 rfl ?_
  refine AW_callVu (y := yX12_mustEnd) (cc := cX12_mustEnd) (n := 1) (d := 3) (mc := 0) (ms := 0) (np := 0) (ret := none) (As := []) (st := []) (ci := 11) dX12_readThing_45 gT_s rfl tM_X12_152 tI_X12_mustEnd selp_X12_mustEnd tIni_X12 tY_X12_mustEnd (by decide +kernel) ⟨by decide, by decide⟩ ⟨by decide, by decide⟩ (Nat.le_of_ble_eq_true rfl) rfl h (fun q hq => c_X12_mustEnd N _ _ q hq) (fun q2 _ h => ?_)
  refine AW_aload_n dX12_readThing_48 rfl ?_
  refine AW_getI (ci := 11) (k0 := 15) (C := RX12) (T := TX12) (N := 31) dX12_readThing_49 rfl (gT_u tU_X12) (by decide) (List.mem_cons_of_mem _ tF_X12_105) h (fun v3 _ h => ?_)
  refine AW_if_ne (tgt := 99) dX12_readThing_52 (by decide) h (fun _ h => ?_) (fun _ h => ?_)
  · exact AW_fewer (fw_d (fw_d (fw_d fw_n))) (t_X12_readThing_99 N _ _ h)
  · refine AW_aload_n dX12_readThing_55 rfl ?_
    refine AW_getR (ci := 11) (k0 := 6) (C := RX12) (T := TX12) (N := 31) dX12_readThing_56 rfl (gT_u tU_X12) (by decide) (List.mem_cons_of_mem _ tF_X12_22) h (fun v4 _ h => ?_)
    refine AW_iconst (v := 5) dX12_readThing_59 (by decide) ?_
    refine AW_iconst (v := 2) dX12_readThing_60 (by decide) ?_
    refine AW_aload_n dX12_readThing_61 rfl ?_
    refine AW_getR (ci := 11) (k0 := 6) (C := RX12) (T := TX12) (N := 31) dX12_readThing_62 rfl (gT_u tU_X12) (by decide) (List.mem_cons_of_mem _ tF_X12_22) h (fun v5 _ h => ?_)
    refine AW_iconst (v := 3) dX12_readThing_65 (by decide) ?_
    refine AW_iald dX12_readThing_66 h (fun v6 _ h => ?_)
    refine AW_imul dX12_readThing_67 ?_
    refine AW_iadd dX12_readThing_68 ?_
    refine AW_iload_n dX12_readThing_69 rfl ?_
    refine AW_iast dX12_readThing_70 h (fun A7 _ h => ?_)
    refine AW_aload_n dX12_readThing_71 rfl ?_
    refine AW_getR (ci := 11) (k0 := 6) (C := RX12) (T := TX12) (N := 31) dX12_readThing_72 rfl (gT_u tU_X12) (by decide) (List.mem_cons_of_mem _ tF_X12_22) h (fun v8 _ h => ?_)
    refine AW_iconst (v := 5) dX12_readThing_75 (by decide) ?_
    refine AW_iconst (v := 2) dX12_readThing_76 (by decide) ?_
    refine AW_aload_n dX12_readThing_77 rfl ?_
    refine AW_getR (ci := 11) (k0 := 6) (C := RX12) (T := TX12) (N := 31) dX12_readThing_78 rfl (gT_u tU_X12) (by decide) (List.mem_cons_of_mem _ tF_X12_22) h (fun v9 _ h => ?_)
    refine AW_iconst (v := 3) dX12_readThing_81 (by decide) ?_
    refine AW_iald dX12_readThing_82 h (fun v10 _ h => ?_)
    refine AW_imul dX12_readThing_83 ?_
    refine AW_iadd dX12_readThing_84 ?_
    refine AW_iconst (v := 1) dX12_readThing_85 (by decide) ?_
    refine AW_iadd dX12_readThing_86 ?_
    refine AW_iload_n dX12_readThing_87 rfl ?_
    refine AW_iast dX12_readThing_88 h (fun A11 _ h => ?_)
    refine AW_aload_n dX12_readThing_89 rfl ?_
    refine AW_getR (ci := 11) (k0 := 6) (C := RX12) (T := TX12) (N := 31) dX12_readThing_90 rfl (gT_u tU_X12) (by decide) (List.mem_cons_of_mem _ tF_X12_22) h (fun v12 _ h => ?_)
    refine AW_iconst (v := 3) dX12_readThing_93 (by decide) ?_
    refine AW_dup2 dX12_readThing_94 rfl (g_cat_rf _) ?_
    refine AW_iald dX12_readThing_95 h (fun v13 _ h => ?_)
    refine AW_iconst (v := 1) dX12_readThing_96 (by decide) ?_
    refine AW_iadd dX12_readThing_97 ?_
    refine AW_iast dX12_readThing_98 h (fun A14 _ h => ?_)
    exact AW_fewer (fw_d (fw_d (fw_d fw_n))) (t_X12_readThing_99 N _ _ h)
def f_X12_readThing_33 (N : Nat) (A : hP) (x0 : Option Nat) (x1 : Int32) (s0 : Option Nat) (s1 : Int32) : Option (Unit × hP) := (oCk A s0 11).bind fun _ => (f_X12_must N A s0 s1).bind fun q15 => f_X12_readThing_36 N q15.2 x0 x1
set_option maxRecDepth 20000 in
set_option maxHeartbeats 4000000 in
theorem t_X12_readThing_33 {l : Launch} {G : gS} (N : Nat) (A : hP) (x0 : Option Nat) (x1 : Int32) (s0 : Option Nat) (s1 : Int32) (res : Unit × hP) (h : f_X12_readThing_33 N A x0 x1 s0 s1 = some res) : AW l mX12_readThing (g_rm 4 0 0) G (g_Qf G (gu res) 0 0) A 0 0 33 [some (va_rf x0), some (.int x1), none] [.int s1, va_rf s0] := by
  unfold f_X12_readThing_33 at h
  refine AW_callVu (y := yX12_must) (cc := cX12_must) (n := 2) (d := 2) (mc := 0) (ms := 0) (np := 1) (ret := none) (As := [.int s1]) (st := []) (ci := 11) dX12_readThing_33 gT_s rfl tM_X12_122 tI_X12_must selp_X12_must tIni_X12 tY_X12_must (by decide +kernel) ⟨by decide, by decide⟩ ⟨by decide, by decide⟩ (Nat.le_of_ble_eq_true rfl) rfl h (fun q hq => c_X12_must N _ _ _ q hq) (fun q15 _ h => ?_)
  exact (t_X12_readThing_36 N _ _ _ _ h)
def f_X12_readThing_0 (N : Nat) (A : hP) (x0 : Option Nat) : Option (Unit × hP) := (oCk A x0 11).bind fun _ => (f_X12_begins N A x0 (3 : Int32) (4 : Int32)).bind fun q16 => (oCk q16.2 x0 11).bind fun _ => (f_X12_name N q16.2 x0).bind fun q17 => (f_X12_kindBy N q17.2 q17.1).bind fun q18 => (oI q18.2 x0 11 15).bind fun v19 => if v19 = (0) then (if q18.1 = (-1000000 : Int32) then (f_X12_readThing_33 N q18.2 x0 q18.1 x0 (0 : Int32)) else (f_X12_readThing_33 N q18.2 x0 q18.1 x0 (1 : Int32))) else (f_X12_readThing_36 N q18.2 x0 q18.1)
set_option maxRecDepth 20000 in
set_option maxHeartbeats 4000000 in
theorem t_X12_readThing_0 {l : Launch} {G : gS} (N : Nat) (A : hP) (x0 : Option Nat) (res : Unit × hP) (h : f_X12_readThing_0 N A x0 = some res) : AW l mX12_readThing (g_rm 4 0 0) G (g_Qf G (gu res) 0 0) A 0 0 0 [some (va_rf x0), none, none] [] := by
  unfold f_X12_readThing_0 at h
  refine AW_aload_n dX12_readThing_0 rfl ?_
  refine AW_iconst (v := 3) dX12_readThing_1 (by decide) ?_
  refine AW_iconst (v := 4) dX12_readThing_2 (by decide) ?_
  refine AW_callVu (y := yX12_begins) (cc := cX12_begins) (n := 3) (d := 3) (mc := 0) (ms := 0) (np := 2) (ret := none) (As := [.int (3 : Int32), .int (4 : Int32)]) (st := []) (ci := 11) dX12_readThing_3 gT_s rfl tM_X12_136 tI_X12_begins selp_X12_begins tIni_X12 tY_X12_begins (by decide +kernel) ⟨by decide, by decide⟩ ⟨by decide, by decide⟩ (Nat.le_of_ble_eq_true rfl) rfl h (fun q hq => c_X12_begins N _ _ _ _ q hq) (fun q16 _ h => ?_)
  refine AW_aload_n dX12_readThing_6 rfl ?_
  refine AW_callVl (y := yX12_name) (cc := cX12_name) (n := 4) (d := 0) (mc := 0) (ms := 0) (np := 0) (ret := (some .long)) (As := []) (st := []) (ci := 11) dX12_readThing_7 gT_s rfl tM_X12_140 tI_X12_name selp_X12_name tIni_X12 tY_X12_name (by decide +kernel) ⟨by decide, by decide⟩ ⟨by decide, by decide⟩ (Nat.le_of_ble_eq_true rfl) rfl h (fun q hq => c_X12_name N _ _ q hq) (fun q17 _ h => ?_)
  refine AW_callSi (y := yX12_kindBy) (cc := cX12_kindBy) (n := 2) (d := 0) (mc := 0) (ms := 0) (np := 1) (ret := (some .int)) (As := [.long q17.1]) (st := []) dX12_readThing_10 gT_s tM_X12_144 tS_X12_kindBy tIni_X12 tY_X12_kindBy (by decide +kernel) ⟨by decide, by decide⟩ ⟨by decide, by decide⟩ (Nat.le_of_ble_eq_true rfl) rfl h (fun q hq => c_X12_kindBy N _ _ q hq) (fun q18 _ h => ?_)
  refine AW_istore_n (ls' := [some (va_rf x0), some (.int q18.1), none]) dX12_readThing_13 (c1_r rfl) (by decide) rfl ?_
  refine AW_aload_n dX12_readThing_14 rfl ?_
  refine AW_getI (ci := 11) (k0 := 15) (C := RX12) (T := TX12) (N := 31) dX12_readThing_15 rfl (gT_u tU_X12) (by decide) (List.mem_cons_of_mem _ tF_X12_105) h (fun v19 _ h => ?_)
  refine AW_if_ne (tgt := 36) dX12_readThing_18 (by decide) h (fun _ h => ?_) (fun _ h => ?_)
  · exact (t_X12_readThing_36 N _ _ _ _ h)
  · refine AW_aload_n dX12_readThing_21 rfl ?_
    refine AW_iload_n dX12_readThing_22 rfl ?_
    refine AW_ldc (v := -1000000) dX12_readThing_23 (List.mem_cons_of_mem _ tK_X12_83) ?_
    refine AW_icmp_eq (tgt := 32) dX12_readThing_25 (by decide) h (fun _ h => ?_) (fun _ h => ?_)
    · refine AW_iconst (v := 0) dX12_readThing_32 (by decide) ?_
      exact (t_X12_readThing_33 N _ _ _ _ _ _ h)
    · refine AW_iconst (v := 1) dX12_readThing_28 (by decide) ?_
      refine AW_goto (tgt := 33) dX12_readThing_29 (by decide) ?_
      exact (t_X12_readThing_33 N _ _ _ _ _ _ h)
def f_X12_readThing (N : Nat) (A : hP) (x0 : Option Nat) : Option (Unit × hP) := f_X12_readThing_0 N A x0
set_option maxRecDepth 20000 in
theorem c_X12_readThing {l : Launch} (N : Nat) (A : hP) (x0 : Option Nat) (res : Unit × hP) (h : f_X12_readThing N A x0 = some res) : Ct l mX12_readThing 4 0 0 A [va_rf x0] (gu res) := Ct.of (lv := [(0, va_rf x0)]) (ls := [some (va_rf x0), none, none]) (by decide) (by simp [lv_args, g_cat_rf, cat_i, cat_l]) rfl (by simp [g_cat_rf, cat_i, cat_l]) (fun G => (t_X12_readThing_0 N A x0 res h))
abbrev mX12_readDay : gM := gMk yX12_readDay cX12_readDay 2 none
def f_X12_readDay_59 (N : Nat) (A : hP) : Option (Unit × hP) := some ((), A)
set_option maxRecDepth 20000 in
set_option maxHeartbeats 4000000 in
theorem t_X12_readDay_59 {l : Launch} {G : gS} (N : Nat) (A : hP) (res : Unit × hP) (h : f_X12_readDay_59 N A  = some res) : AW l mX12_readDay (g_rm 4 0 0) G (g_Qf G (gu res) 0 0) A 0 0 59 [none, none] [] := by
  unfold f_X12_readDay_59 at h
  exact AW_vret dX12_readDay_59 rfl ⟨Nat.zero_le _, Nat.zero_le _⟩ h
def f_X12_readDay_0 (N : Nat) (A : hP) (x0 : Option Nat) : Option (Unit × hP) := (oCk A x0 11).bind fun _ => (f_X12_begins N A x0 (4 : Int32) (12 : Int32)).bind fun q1 => (oR q1.2 x0 11 6).bind fun v2 => (oA q1.2 v2 0 (3 : Int32)).bind fun v3 => (oCk q1.2 x0 11).bind fun _ => (f_X12_number N q1.2 x0 (0 : Int32) (((1 : Int32) <<< (v3 &&& 31)) - (1 : Int32))).bind fun q4 => (oCk q4.2 x0 11).bind fun _ => (f_X12_mustEnd N q4.2 x0).bind fun q5 => (oI q5.2 x0 11 15).bind fun v6 => if v6 = (0) then ((oR q5.2 x0 11 6).bind fun v7 => (oR q5.2 x0 11 6).bind fun v8 => (oA q5.2 v8 0 (4 : Int32)).bind fun v9 => (oS q5.2 v7 0 ((13 : Int32) + v9) q4.1).bind fun A10 => (oR A10 x0 11 6).bind fun v11 => (oA A10 v11 0 (4 : Int32)).bind fun v12 => (oS A10 v11 0 (4 : Int32) (v12 + (1 : Int32))).bind fun A13 => f_X12_readDay_59 N A13) else (f_X12_readDay_59 N q5.2)
set_option maxRecDepth 20000 in
set_option maxHeartbeats 4000000 in
theorem t_X12_readDay_0 {l : Launch} {G : gS} (N : Nat) (A : hP) (x0 : Option Nat) (res : Unit × hP) (h : f_X12_readDay_0 N A x0 = some res) : AW l mX12_readDay (g_rm 4 0 0) G (g_Qf G (gu res) 0 0) A 0 0 0 [some (va_rf x0), none] [] := by
  unfold f_X12_readDay_0 at h
  refine AW_aload_n dX12_readDay_0 rfl ?_
  refine AW_iconst (v := 4) dX12_readDay_1 (by decide) ?_
  refine AW_bipush (v := 12) dX12_readDay_2 (by decide) ?_
  refine AW_callVu (y := yX12_begins) (cc := cX12_begins) (n := 3) (d := 3) (mc := 0) (ms := 0) (np := 2) (ret := none) (As := [.int (4 : Int32), .int (12 : Int32)]) (st := []) (ci := 11) dX12_readDay_4 gT_s rfl tM_X12_136 tI_X12_begins selp_X12_begins tIni_X12 tY_X12_begins (by decide +kernel) ⟨by decide, by decide⟩ ⟨by decide, by decide⟩ (Nat.le_of_ble_eq_true rfl) rfl h (fun q hq => c_X12_begins N _ _ _ _ q hq) (fun q1 _ h => ?_)
  refine AW_aload_n dX12_readDay_7 rfl ?_
  refine AW_iconst (v := 0) dX12_readDay_8 (by decide) ?_
  refine AW_iconst (v := 1) dX12_readDay_9 (by decide) ?_
  refine AW_aload_n dX12_readDay_10 rfl ?_
  refine AW_getR (ci := 11) (k0 := 6) (C := RX12) (T := TX12) (N := 31) dX12_readDay_11 rfl (gT_u tU_X12) (by decide) (List.mem_cons_of_mem _ tF_X12_22) h (fun v2 _ h => ?_)
  refine AW_iconst (v := 3) dX12_readDay_14 (by decide) ?_
  refine AW_iald dX12_readDay_15 h (fun v3 _ h => ?_)
  refine AW_ishl dX12_readDay_16 ?_
  refine AW_iconst (v := 1) dX12_readDay_17 (by decide) ?_
  refine AW_isub dX12_readDay_18 ?_
  refine AW_callVi (y := yX12_number) (cc := cX12_number) (n := 4) (d := 3) (mc := 0) (ms := 0) (np := 2) (ret := (some .int)) (As := [.int (0 : Int32), .int (((1 : Int32) <<< (v3 &&& 31)) - (1 : Int32))]) (st := []) (ci := 11) dX12_readDay_19 gT_s rfl tM_X12_148 tI_X12_number selp_X12_number tIni_X12 tY_X12_number (by decide +kernel) ⟨by decide, by decide⟩ ⟨by decide, by decide⟩ (Nat.le_of_ble_eq_true rfl) rfl h (fun q hq => c_X12_number N _ _ _ _ q hq) (fun q4 _ h => ?_)
  refine AW_istore_n (ls' := [some (va_rf x0), some (.int q4.1)]) dX12_readDay_22 (c1_r rfl) (by decide) rfl ?_
  refine AW_aload_n dX12_readDay_23 rfl ?_
  refine AW_callVu (y := yX12_mustEnd) (cc := cX12_mustEnd) (n := 1) (d := 3) (mc := 0) (ms := 0) (np := 0) (ret := none) (As := []) (st := []) (ci := 11) dX12_readDay_24 gT_s rfl tM_X12_152 tI_X12_mustEnd selp_X12_mustEnd tIni_X12 tY_X12_mustEnd (by decide +kernel) ⟨by decide, by decide⟩ ⟨by decide, by decide⟩ (Nat.le_of_ble_eq_true rfl) rfl h (fun q hq => c_X12_mustEnd N _ _ q hq) (fun q5 _ h => ?_)
  refine AW_aload_n dX12_readDay_27 rfl ?_
  refine AW_getI (ci := 11) (k0 := 15) (C := RX12) (T := TX12) (N := 31) dX12_readDay_28 rfl (gT_u tU_X12) (by decide) (List.mem_cons_of_mem _ tF_X12_105) h (fun v6 _ h => ?_)
  refine AW_if_ne (tgt := 59) dX12_readDay_31 (by decide) h (fun _ h => ?_) (fun _ h => ?_)
  · exact AW_fewer (fw_d (fw_d fw_n)) (t_X12_readDay_59 N _ _ h)
  · refine AW_aload_n dX12_readDay_34 rfl ?_
    refine AW_getR (ci := 11) (k0 := 6) (C := RX12) (T := TX12) (N := 31) dX12_readDay_35 rfl (gT_u tU_X12) (by decide) (List.mem_cons_of_mem _ tF_X12_22) h (fun v7 _ h => ?_)
    refine AW_bipush (v := 13) dX12_readDay_38 (by decide) ?_
    refine AW_aload_n dX12_readDay_40 rfl ?_
    refine AW_getR (ci := 11) (k0 := 6) (C := RX12) (T := TX12) (N := 31) dX12_readDay_41 rfl (gT_u tU_X12) (by decide) (List.mem_cons_of_mem _ tF_X12_22) h (fun v8 _ h => ?_)
    refine AW_iconst (v := 4) dX12_readDay_44 (by decide) ?_
    refine AW_iald dX12_readDay_45 h (fun v9 _ h => ?_)
    refine AW_iadd dX12_readDay_46 ?_
    refine AW_iload_n dX12_readDay_47 rfl ?_
    refine AW_iast dX12_readDay_48 h (fun A10 _ h => ?_)
    refine AW_aload_n dX12_readDay_49 rfl ?_
    refine AW_getR (ci := 11) (k0 := 6) (C := RX12) (T := TX12) (N := 31) dX12_readDay_50 rfl (gT_u tU_X12) (by decide) (List.mem_cons_of_mem _ tF_X12_22) h (fun v11 _ h => ?_)
    refine AW_iconst (v := 4) dX12_readDay_53 (by decide) ?_
    refine AW_dup2 dX12_readDay_54 rfl (g_cat_rf _) ?_
    refine AW_iald dX12_readDay_55 h (fun v12 _ h => ?_)
    refine AW_iconst (v := 1) dX12_readDay_56 (by decide) ?_
    refine AW_iadd dX12_readDay_57 ?_
    refine AW_iast dX12_readDay_58 h (fun A13 _ h => ?_)
    exact AW_fewer (fw_d (fw_d fw_n)) (t_X12_readDay_59 N _ _ h)
def f_X12_readDay (N : Nat) (A : hP) (x0 : Option Nat) : Option (Unit × hP) := f_X12_readDay_0 N A x0
set_option maxRecDepth 20000 in
theorem c_X12_readDay {l : Launch} (N : Nat) (A : hP) (x0 : Option Nat) (res : Unit × hP) (h : f_X12_readDay N A x0 = some res) : Ct l mX12_readDay 4 0 0 A [va_rf x0] (gu res) := Ct.of (lv := [(0, va_rf x0)]) (ls := [some (va_rf x0), none]) (by decide) (by simp [lv_args, g_cat_rf, cat_i, cat_l]) rfl (by simp [g_cat_rf, cat_i, cat_l]) (fun G => (t_X12_readDay_0 N A x0 res h))
abbrev mX12_port : gM := gMk yX12_port cX12_port 2 (some .int)
def f_X12_port_173 (N : Nat) : Nat → hP → Option Nat → Int32 → Option (Int32 × hP)
  | 0, _, _, _ => none
  | n + 1, A, x0, x1 => if (39 : Int32) ≤ x1 then ((oR A x0 11 5).bind fun v1 => (oA A v1 0 (4 : Int32)).bind fun v2 => some (v2, A)) else ((oR A x0 11 5).bind fun v3 => (oR A x0 11 6).bind fun v4 => (oA A v4 0 x1).bind fun v5 => (oS A v3 0 x1 v5).bind fun A6 => f_X12_port_173 N n A6 x0 (x1 + (1 : Int32)))
set_option maxRecDepth 20000 in
set_option maxHeartbeats 4000000 in
theorem t_X12_port_173 {l : Launch} {G : gS} (N : Nat) : ∀ (n : Nat) (A : hP) (x0 : Option Nat) (x1 : Int32) (res : Int32 × hP), f_X12_port_173 N n A x0 x1 = some res → AW l mX12_port (g_rm 5 0 0) G (g_Qf G (gi res) 0 0) A 0 0 173 [some (va_rf x0), some (.int x1)] [] := by
  intro n
  induction n with
  | zero => intro A x0 x1 res h; cases h
  | succ n ih =>
    intro A x0 x1 res h
    rw [f_X12_port_173] at h
    refine AW_iload_n dX12_port_173 rfl ?_
    refine AW_bipush (v := 39) dX12_port_174 (by decide) ?_
    refine AW_icmp_ge (tgt := 197) dX12_port_176 (by decide) h (fun _ h => ?_) (fun _ h => ?_)
    · refine AW_aload_n dX12_port_197 rfl ?_
      refine AW_getR (ci := 11) (k0 := 5) (C := RX12) (T := TX12) (N := 31) dX12_port_198 rfl (gT_u tU_X12) (by decide) (List.mem_cons_of_mem _ tF_X12_19) h (fun v1 _ h => ?_)
      refine AW_iconst (v := 4) dX12_port_201 (by decide) ?_
      refine AW_iald dX12_port_202 h (fun v2 _ h => ?_)
      exact AW_iret dX12_port_203 rfl ⟨Nat.zero_le _, Nat.zero_le _⟩ h
    · refine AW_aload_n dX12_port_179 rfl ?_
      refine AW_getR (ci := 11) (k0 := 5) (C := RX12) (T := TX12) (N := 31) dX12_port_180 rfl (gT_u tU_X12) (by decide) (List.mem_cons_of_mem _ tF_X12_19) h (fun v3 _ h => ?_)
      refine AW_iload_n dX12_port_183 rfl ?_
      refine AW_aload_n dX12_port_184 rfl ?_
      refine AW_getR (ci := 11) (k0 := 6) (C := RX12) (T := TX12) (N := 31) dX12_port_185 rfl (gT_u tU_X12) (by decide) (List.mem_cons_of_mem _ tF_X12_22) h (fun v4 _ h => ?_)
      refine AW_iload_n dX12_port_188 rfl ?_
      refine AW_iald dX12_port_189 h (fun v5 _ h => ?_)
      refine AW_iast dX12_port_190 h (fun A6 _ h => ?_)
      refine AW_iinc (v := 1) (ls' := [some (va_rf x0), some (.int (x1 + (1 : Int32)))]) dX12_port_191 rfl (c1_r rfl) (by decide) (by decide) rfl ?_
      refine AW_goto (tgt := 173) dX12_port_194 (by decide) ?_
      exact (ih _ _ _ _ h)
def f_X12_port_148 (N : Nat) (A : hP) (x0 : Option Nat) : Option (Int32 × hP) := (oI A x0 11 15).bind fun v7 => if v7 ≤ (0) then (f_X12_port_173 N N A x0 (0 : Int32)) else ((oI A x0 11 15).bind fun v8 => (oP A x0 11 9 (.int v8)).bind fun A9 => (oI A9 x0 11 16).bind fun v10 => some ((-1000100 : Int32) - v10, A9))
set_option maxRecDepth 20000 in
set_option maxHeartbeats 4000000 in
theorem t_X12_port_148 {l : Launch} {G : gS} (N : Nat) (A : hP) (x0 : Option Nat) (res : Int32 × hP) (h : f_X12_port_148 N A x0 = some res) : AW l mX12_port (g_rm 5 0 0) G (g_Qf G (gi res) 0 0) A 0 0 148 [some (va_rf x0), none] [] := by
  unfold f_X12_port_148 at h
  refine AW_aload_n dX12_port_148 rfl ?_
  refine AW_getI (ci := 11) (k0 := 15) (C := RX12) (T := TX12) (N := 31) dX12_port_149 rfl (gT_u tU_X12) (by decide) (List.mem_cons_of_mem _ tF_X12_105) h (fun v7 _ h => ?_)
  refine AW_if_le (tgt := 171) dX12_port_152 (by decide) h (fun _ h => ?_) (fun _ h => ?_)
  · refine AW_iconst (v := 0) dX12_port_171 (by decide) ?_
    refine AW_istore_n (ls' := [some (va_rf x0), some (.int (0 : Int32))]) dX12_port_172 (c1_r rfl) (by decide) rfl ?_
    exact (t_X12_port_173 N N _ _ _ _ h)
  · refine AW_aload_n dX12_port_155 rfl ?_
    refine AW_aload_n dX12_port_156 rfl ?_
    refine AW_getI (ci := 11) (k0 := 15) (C := RX12) (T := TX12) (N := 31) dX12_port_157 rfl (gT_u tU_X12) (by decide) (List.mem_cons_of_mem _ tF_X12_105) h (fun v8 _ h => ?_)
    refine AW_put (ci := 11) (k0 := 9) (C := RX12) (T := TX12) (N := 31) (ty0 := tyX12) dX12_port_160 rfl (gT_u tU_X12) tyX12_ok nmX12 (by decide) (List.mem_cons_of_mem _ tF_X12_170) (Or.inl rfl) rfl rfl h (fun A9 _ h => ?_)
    refine AW_ldc (v := -1000100) dX12_port_163 (List.mem_cons_of_mem _ tK_X12_173) ?_
    refine AW_aload_n dX12_port_165 rfl ?_
    refine AW_getI (ci := 11) (k0 := 16) (C := RX12) (T := TX12) (N := 31) dX12_port_166 rfl (gT_u tU_X12) (by decide) (List.mem_cons_of_mem _ tF_X12_111) h (fun v10 _ h => ?_)
    refine AW_isub dX12_port_169 ?_
    exact AW_iret dX12_port_170 rfl ⟨Nat.zero_le _, Nat.zero_le _⟩ h
def f_X12_port_110 (N : Nat) : Nat → hP → Option Nat → Option (Int32 × hP)
  | 0, _, _ => none
  | n + 1, A, x0 => (oCk A x0 11).bind fun _ => (f_X12_name N A x0).bind fun q11 => if (lg_cmp q11.1 (6578553 : Int64)) = (0) then ((oCk q11.2 x0 11).bind fun _ => (f_X12_readDay N q11.2 x0).bind fun q15 => f_X12_port_110 N n q15.2 x0) else ((oI q11.2 x0 11 15).bind fun v12 => if v12 = (0) then ((oI q11.2 x0 11 12).bind fun v13 => if v13 = (1 : Int32) then (f_X12_port_148 N q11.2 x0) else ((oCk q11.2 x0 11).bind fun _ => (f_X12_bad N q11.2 x0 (1 : Int32)).bind fun q14 => f_X12_port_148 N q14.2 x0)) else (f_X12_port_148 N q11.2 x0))
set_option maxRecDepth 20000 in
set_option maxHeartbeats 4000000 in
theorem t_X12_port_110 {l : Launch} {G : gS} (N : Nat) : ∀ (n : Nat) (A : hP) (x0 : Option Nat) (res : Int32 × hP), f_X12_port_110 N n A x0 = some res → AW l mX12_port (g_rm 5 0 0) G (g_Qf G (gi res) 0 0) A 0 0 110 [some (va_rf x0), none] [] := by
  intro n
  induction n with
  | zero => intro A x0 res h; cases h
  | succ n ih =>
    intro A x0 res h
    rw [f_X12_port_110] at h
    refine AW_aload_n dX12_port_110 rfl ?_
    refine AW_callVl (y := yX12_name) (cc := cX12_name) (n := 4) (d := 0) (mc := 0) (ms := 0) (np := 0) (ret := (some .long)) (As := []) (st := []) (ci := 11) dX12_port_111 gT_s rfl tM_X12_140 tI_X12_name selp_X12_name tIni_X12 tY_X12_name (by decide +kernel) ⟨by decide, by decide⟩ ⟨by decide, by decide⟩ (Nat.le_of_ble_eq_true rfl) rfl h (fun q hq => c_X12_name N _ _ q hq) (fun q11 _ h => ?_)
    refine AW_ldc2 (v := 6578553) dX12_port_114 (List.mem_cons_of_mem _ tL_X12_165) ?_
    refine AW_lcmp dX12_port_117 ?_
    refine AW_if_ne (tgt := 128) dX12_port_118 (by decide) h (fun _ h => ?_) (fun _ h => ?_)
    · refine AW_aload_n dX12_port_128 rfl ?_
      refine AW_getI (ci := 11) (k0 := 15) (C := RX12) (T := TX12) (N := 31) dX12_port_129 rfl (gT_u tU_X12) (by decide) (List.mem_cons_of_mem _ tF_X12_105) h (fun v12 _ h => ?_)
      refine AW_if_ne (tgt := 148) dX12_port_132 (by decide) h (fun _ h => ?_) (fun _ h => ?_)
      · exact (t_X12_port_148 N _ _ _ h)
      · refine AW_aload_n dX12_port_135 rfl ?_
        refine AW_getI (ci := 11) (k0 := 12) (C := RX12) (T := TX12) (N := 31) dX12_port_136 rfl (gT_u tU_X12) (by decide) (List.mem_cons_of_mem _ tF_X12_93) h (fun v13 _ h => ?_)
        refine AW_iconst (v := 1) dX12_port_139 (by decide) ?_
        refine AW_icmp_eq (tgt := 148) dX12_port_140 (by decide) h (fun _ h => ?_) (fun _ h => ?_)
        · exact (t_X12_port_148 N _ _ _ h)
        · refine AW_aload_n dX12_port_143 rfl ?_
          refine AW_iconst (v := 1) dX12_port_144 (by decide) ?_
          refine AW_callVu (y := yX12_bad) (cc := cX12_bad) (n := 2) (d := 0) (mc := 0) (ms := 0) (np := 1) (ret := none) (As := [.int (1 : Int32)]) (st := []) (ci := 11) dX12_port_145 gT_s rfl tM_X12_114 tI_X12_bad selp_X12_bad tIni_X12 tY_X12_bad (by decide +kernel) ⟨by decide, by decide⟩ ⟨by decide, by decide⟩ (Nat.le_of_ble_eq_true rfl) rfl h (fun q hq => c_X12_bad N _ _ _ q hq) (fun q14 _ h => ?_)
          exact (t_X12_port_148 N _ _ _ h)
    · refine AW_aload_n dX12_port_121 rfl ?_
      refine AW_callVu (y := yX12_readDay) (cc := cX12_readDay) (n := 2) (d := 4) (mc := 0) (ms := 0) (np := 0) (ret := none) (As := []) (st := []) (ci := 11) dX12_port_122 gT_s rfl tM_X12_167 tI_X12_readDay selp_X12_readDay tIni_X12 tY_X12_readDay (by decide +kernel) ⟨by decide, by decide⟩ ⟨by decide, by decide⟩ (Nat.le_of_ble_eq_true rfl) rfl h (fun q hq => c_X12_readDay N _ _ q hq) (fun q15 _ h => ?_)
      refine AW_goto (tgt := 110) dX12_port_125 (by decide) ?_
      exact (ih _ _ _ h)
def f_X12_port_92 (N : Nat) : Nat → hP → Option Nat → Option (Int32 × hP)
  | 0, _, _ => none
  | n + 1, A, x0 => (oCk A x0 11).bind fun _ => (f_X12_name N A x0).bind fun q16 => if (lg_cmp q16.1 (499967946343 : Int64)) = (0) then ((oCk q16.2 x0 11).bind fun _ => (f_X12_readThing N q16.2 x0).bind fun q17 => f_X12_port_92 N n q17.2 x0) else (f_X12_port_110 N N q16.2 x0)
set_option maxRecDepth 20000 in
set_option maxHeartbeats 4000000 in
theorem t_X12_port_92 {l : Launch} {G : gS} (N : Nat) : ∀ (n : Nat) (A : hP) (x0 : Option Nat) (res : Int32 × hP), f_X12_port_92 N n A x0 = some res → AW l mX12_port (g_rm 5 0 0) G (g_Qf G (gi res) 0 0) A 0 0 92 [some (va_rf x0), none] [] := by
  intro n
  induction n with
  | zero => intro A x0 res h; cases h
  | succ n ih =>
    intro A x0 res h
    rw [f_X12_port_92] at h
    refine AW_aload_n dX12_port_92 rfl ?_
    refine AW_callVl (y := yX12_name) (cc := cX12_name) (n := 4) (d := 0) (mc := 0) (ms := 0) (np := 0) (ret := (some .long)) (As := []) (st := []) (ci := 11) dX12_port_93 gT_s rfl tM_X12_140 tI_X12_name selp_X12_name tIni_X12 tY_X12_name (by decide +kernel) ⟨by decide, by decide⟩ ⟨by decide, by decide⟩ (Nat.le_of_ble_eq_true rfl) rfl h (fun q hq => c_X12_name N _ _ q hq) (fun q16 _ h => ?_)
    refine AW_ldc2 (v := 499967946343) dX12_port_96 (List.mem_cons_of_mem _ tL_X12_160) ?_
    refine AW_lcmp dX12_port_99 ?_
    refine AW_if_ne (tgt := 110) dX12_port_100 (by decide) h (fun _ h => ?_) (fun _ h => ?_)
    · exact (t_X12_port_110 N N _ _ _ h)
    · refine AW_aload_n dX12_port_103 rfl ?_
      refine AW_callVu (y := yX12_readThing) (cc := cX12_readThing) (n := 3) (d := 4) (mc := 0) (ms := 0) (np := 0) (ret := none) (As := []) (st := []) (ci := 11) dX12_port_104 gT_s rfl tM_X12_162 tI_X12_readThing selp_X12_readThing tIni_X12 tY_X12_readThing (by decide +kernel) ⟨by decide, by decide⟩ ⟨by decide, by decide⟩ (Nat.le_of_ble_eq_true rfl) rfl h (fun q hq => c_X12_readThing N _ _ q hq) (fun q17 _ h => ?_)
      refine AW_goto (tgt := 92) dX12_port_107 (by decide) ?_
      exact (ih _ _ _ h)
def f_X12_port_47 (N : Nat) (A : hP) (x0 : Option Nat) (s0 : Option Nat) (s1 : Int32) : Option (Int32 × hP) := (oCk A s0 11).bind fun _ => (f_X12_must N A s0 s1).bind fun q18 => (oR q18.2 x0 11 6).bind fun v19 => (oCk q18.2 x0 11).bind fun _ => (f_X12_number N q18.2 x0 (0 : Int32) (3 : Int32)).bind fun q20 => (oS q20.2 v19 0 (0 : Int32) q20.1).bind fun A21 => (oR A21 x0 11 6).bind fun v22 => (oCk A21 x0 11).bind fun _ => (f_X12_number N A21 x0 (0 : Int32) (1 : Int32)).bind fun q23 => (oS q23.2 v22 0 (1 : Int32) q23.1).bind fun A24 => (oR A24 x0 11 6).bind fun v25 => (oCk A24 x0 11).bind fun _ => (f_X12_number N A24 x0 (2 : Int32) (200 : Int32)).bind fun q26 => (oS q26.2 v25 0 (2 : Int32) q26.1).bind fun A27 => (oCk A27 x0 11).bind fun _ => (f_X12_mustEnd N A27 x0).bind fun q28 => f_X12_port_92 N N q28.2 x0
set_option maxRecDepth 20000 in
set_option maxHeartbeats 4000000 in
theorem t_X12_port_47 {l : Launch} {G : gS} (N : Nat) (A : hP) (x0 : Option Nat) (s0 : Option Nat) (s1 : Int32) (res : Int32 × hP) (h : f_X12_port_47 N A x0 s0 s1 = some res) : AW l mX12_port (g_rm 5 0 0) G (g_Qf G (gi res) 0 0) A 0 0 47 [some (va_rf x0), none] [.int s1, va_rf s0] := by
  unfold f_X12_port_47 at h
  refine AW_callVu (y := yX12_must) (cc := cX12_must) (n := 2) (d := 2) (mc := 0) (ms := 0) (np := 1) (ret := none) (As := [.int s1]) (st := []) (ci := 11) dX12_port_47 gT_s rfl tM_X12_122 tI_X12_must selp_X12_must tIni_X12 tY_X12_must (by decide +kernel) ⟨by decide, by decide⟩ ⟨by decide, by decide⟩ (Nat.le_of_ble_eq_true rfl) rfl h (fun q hq => c_X12_must N _ _ _ q hq) (fun q18 _ h => ?_)
  refine AW_aload_n dX12_port_50 rfl ?_
  refine AW_getR (ci := 11) (k0 := 6) (C := RX12) (T := TX12) (N := 31) dX12_port_51 rfl (gT_u tU_X12) (by decide) (List.mem_cons_of_mem _ tF_X12_22) h (fun v19 _ h => ?_)
  refine AW_iconst (v := 0) dX12_port_54 (by decide) ?_
  refine AW_aload_n dX12_port_55 rfl ?_
  refine AW_iconst (v := 0) dX12_port_56 (by decide) ?_
  refine AW_iconst (v := 3) dX12_port_57 (by decide) ?_
  refine AW_callVi (y := yX12_number) (cc := cX12_number) (n := 4) (d := 3) (mc := 0) (ms := 0) (np := 2) (ret := (some .int)) (As := [.int (0 : Int32), .int (3 : Int32)]) (st := [.int (0 : Int32), va_rf v19]) (ci := 11) dX12_port_58 gT_s rfl tM_X12_148 tI_X12_number selp_X12_number tIni_X12 tY_X12_number (by decide +kernel) ⟨by decide, by decide⟩ ⟨by decide, by decide⟩ (Nat.le_of_ble_eq_true rfl) rfl h (fun q hq => c_X12_number N _ _ _ _ q hq) (fun q20 _ h => ?_)
  refine AW_iast dX12_port_61 h (fun A21 _ h => ?_)
  refine AW_aload_n dX12_port_62 rfl ?_
  refine AW_getR (ci := 11) (k0 := 6) (C := RX12) (T := TX12) (N := 31) dX12_port_63 rfl (gT_u tU_X12) (by decide) (List.mem_cons_of_mem _ tF_X12_22) h (fun v22 _ h => ?_)
  refine AW_iconst (v := 1) dX12_port_66 (by decide) ?_
  refine AW_aload_n dX12_port_67 rfl ?_
  refine AW_iconst (v := 0) dX12_port_68 (by decide) ?_
  refine AW_iconst (v := 1) dX12_port_69 (by decide) ?_
  refine AW_callVi (y := yX12_number) (cc := cX12_number) (n := 4) (d := 3) (mc := 0) (ms := 0) (np := 2) (ret := (some .int)) (As := [.int (0 : Int32), .int (1 : Int32)]) (st := [.int (1 : Int32), va_rf v22]) (ci := 11) dX12_port_70 gT_s rfl tM_X12_148 tI_X12_number selp_X12_number tIni_X12 tY_X12_number (by decide +kernel) ⟨by decide, by decide⟩ ⟨by decide, by decide⟩ (Nat.le_of_ble_eq_true rfl) rfl h (fun q hq => c_X12_number N _ _ _ _ q hq) (fun q23 _ h => ?_)
  refine AW_iast dX12_port_73 h (fun A24 _ h => ?_)
  refine AW_aload_n dX12_port_74 rfl ?_
  refine AW_getR (ci := 11) (k0 := 6) (C := RX12) (T := TX12) (N := 31) dX12_port_75 rfl (gT_u tU_X12) (by decide) (List.mem_cons_of_mem _ tF_X12_22) h (fun v25 _ h => ?_)
  refine AW_iconst (v := 2) dX12_port_78 (by decide) ?_
  refine AW_aload_n dX12_port_79 rfl ?_
  refine AW_iconst (v := 2) dX12_port_80 (by decide) ?_
  refine AW_sipush (v := 200) dX12_port_81 (by decide) ?_
  refine AW_callVi (y := yX12_number) (cc := cX12_number) (n := 4) (d := 3) (mc := 0) (ms := 0) (np := 2) (ret := (some .int)) (As := [.int (2 : Int32), .int (200 : Int32)]) (st := [.int (2 : Int32), va_rf v25]) (ci := 11) dX12_port_84 gT_s rfl tM_X12_148 tI_X12_number selp_X12_number tIni_X12 tY_X12_number (by decide +kernel) ⟨by decide, by decide⟩ ⟨by decide, by decide⟩ (Nat.le_of_ble_eq_true rfl) rfl h (fun q hq => c_X12_number N _ _ _ _ q hq) (fun q26 _ h => ?_)
  refine AW_iast dX12_port_87 h (fun A27 _ h => ?_)
  refine AW_aload_n dX12_port_88 rfl ?_
  refine AW_callVu (y := yX12_mustEnd) (cc := cX12_mustEnd) (n := 1) (d := 3) (mc := 0) (ms := 0) (np := 0) (ret := none) (As := []) (st := []) (ci := 11) dX12_port_89 gT_s rfl tM_X12_152 tI_X12_mustEnd selp_X12_mustEnd tIni_X12 tY_X12_mustEnd (by decide +kernel) ⟨by decide, by decide⟩ ⟨by decide, by decide⟩ (Nat.le_of_ble_eq_true rfl) rfl h (fun q hq => c_X12_mustEnd N _ _ q hq) (fun q28 _ h => ?_)
  exact (t_X12_port_92 N N _ _ _ h)
def f_X12_port_11 (N : Nat) : Nat → hP → Option Nat → Int32 → Option (Int32 × hP)
  | 0, _, _, _ => none
  | n + 1, A, x0, x1 => if (39 : Int32) ≤ x1 then ((oCk A x0 11).bind fun _ => (f_X12_name N A x0).bind fun q29 => if (lg_cmp q29.1 (7102839 : Int64)) = (0) then (f_X12_port_47 N q29.2 x0 x0 (1 : Int32)) else (f_X12_port_47 N q29.2 x0 x0 (0 : Int32))) else ((oR A x0 11 6).bind fun v30 => (oS A v30 0 x1 (0 : Int32)).bind fun A31 => f_X12_port_11 N n A31 x0 (x1 + (1 : Int32)))
set_option maxRecDepth 20000 in
set_option maxHeartbeats 4000000 in
theorem t_X12_port_11 {l : Launch} {G : gS} (N : Nat) : ∀ (n : Nat) (A : hP) (x0 : Option Nat) (x1 : Int32) (res : Int32 × hP), f_X12_port_11 N n A x0 x1 = some res → AW l mX12_port (g_rm 5 0 0) G (g_Qf G (gi res) 0 0) A 0 0 11 [some (va_rf x0), some (.int x1)] [] := by
  intro n
  induction n with
  | zero => intro A x0 x1 res h; cases h
  | succ n ih =>
    intro A x0 x1 res h
    rw [f_X12_port_11] at h
    refine AW_iload_n dX12_port_11 rfl ?_
    refine AW_bipush (v := 39) dX12_port_12 (by decide) ?_
    refine AW_icmp_ge (tgt := 30) dX12_port_14 (by decide) h (fun _ h => ?_) (fun _ h => ?_)
    · refine AW_aload_n dX12_port_30 rfl ?_
      refine AW_aload_n dX12_port_31 rfl ?_
      refine AW_callVl (y := yX12_name) (cc := cX12_name) (n := 4) (d := 0) (mc := 0) (ms := 0) (np := 0) (ret := (some .long)) (As := []) (st := [va_rf x0]) (ci := 11) dX12_port_32 gT_s rfl tM_X12_140 tI_X12_name selp_X12_name tIni_X12 tY_X12_name (by decide +kernel) ⟨by decide, by decide⟩ ⟨by decide, by decide⟩ (Nat.le_of_ble_eq_true rfl) rfl h (fun q hq => c_X12_name N _ _ q hq) (fun q29 _ h => ?_)
      refine AW_ldc2 (v := 7102839) dX12_port_35 (List.mem_cons_of_mem _ tL_X12_158) ?_
      refine AW_lcmp dX12_port_38 ?_
      refine AW_if_ne (tgt := 46) dX12_port_39 (by decide) h (fun _ h => ?_) (fun _ h => ?_)
      · refine AW_iconst (v := 0) dX12_port_46 (by decide) ?_
        exact AW_fewer (fw_k (fw_d fw_n)) (t_X12_port_47 N _ _ _ _ _ h)
      · refine AW_iconst (v := 1) dX12_port_42 (by decide) ?_
        refine AW_goto (tgt := 47) dX12_port_43 (by decide) ?_
        exact AW_fewer (fw_k (fw_d fw_n)) (t_X12_port_47 N _ _ _ _ _ h)
    · refine AW_aload_n dX12_port_17 rfl ?_
      refine AW_getR (ci := 11) (k0 := 6) (C := RX12) (T := TX12) (N := 31) dX12_port_18 rfl (gT_u tU_X12) (by decide) (List.mem_cons_of_mem _ tF_X12_22) h (fun v30 _ h => ?_)
      refine AW_iload_n dX12_port_21 rfl ?_
      refine AW_iconst (v := 0) dX12_port_22 (by decide) ?_
      refine AW_iast dX12_port_23 h (fun A31 _ h => ?_)
      refine AW_iinc (v := 1) (ls' := [some (va_rf x0), some (.int (x1 + (1 : Int32)))]) dX12_port_24 rfl (c1_r rfl) (by decide) (by decide) rfl ?_
      refine AW_goto (tgt := 11) dX12_port_27 (by decide) ?_
      exact (ih _ _ _ _ h)
def f_X12_port_0 (N : Nat) (A : hP) (x0 : Option Nat) : Option (Int32 × hP) := (oP A x0 11 0 (.int (0 : Int32))).bind fun A32 => (oCk A32 x0 11).bind fun _ => (f_X12_begin N A32 x0).bind fun q33 => f_X12_port_11 N N q33.2 x0 (0 : Int32)
set_option maxRecDepth 20000 in
set_option maxHeartbeats 4000000 in
theorem t_X12_port_0 {l : Launch} {G : gS} (N : Nat) (A : hP) (x0 : Option Nat) (res : Int32 × hP) (h : f_X12_port_0 N A x0 = some res) : AW l mX12_port (g_rm 5 0 0) G (g_Qf G (gi res) 0 0) A 0 0 0 [some (va_rf x0), none] [] := by
  unfold f_X12_port_0 at h
  refine AW_aload_n dX12_port_0 rfl ?_
  refine AW_iconst (v := 0) dX12_port_1 (by decide) ?_
  refine AW_put (ci := 11) (k0 := 0) (C := RX12) (T := TX12) (N := 31) (ty0 := tyX12) dX12_port_2 rfl (gT_u tU_X12) tyX12_ok nmX12 (by decide) (List.mem_cons_of_mem _ tF_X12_47) (Or.inl rfl) rfl rfl h (fun A32 _ h => ?_)
  refine AW_aload_n dX12_port_5 rfl ?_
  refine AW_callVu (y := yX12_begin) (cc := cX12_begin) (n := 1) (d := 2) (mc := 0) (ms := 0) (np := 0) (ret := none) (As := []) (st := []) (ci := 11) dX12_port_6 gT_s rfl tM_X12_155 tI_X12_begin selp_X12_begin tIni_X12 tY_X12_begin (by decide +kernel) ⟨by decide, by decide⟩ ⟨by decide, by decide⟩ (Nat.le_of_ble_eq_true rfl) rfl h (fun q hq => c_X12_begin N _ _ q hq) (fun q33 _ h => ?_)
  refine AW_iconst (v := 0) dX12_port_9 (by decide) ?_
  refine AW_istore_n (ls' := [some (va_rf x0), some (.int (0 : Int32))]) dX12_port_10 (c1_r rfl) (by decide) rfl ?_
  exact (t_X12_port_11 N N _ _ _ _ h)
def f_X12_port (N : Nat) (A : hP) (x0 : Option Nat) : Option (Int32 × hP) := f_X12_port_0 N A x0
set_option maxRecDepth 20000 in
theorem c_X12_port {l : Launch} (N : Nat) (A : hP) (x0 : Option Nat) (res : Int32 × hP) (h : f_X12_port N A x0 = some res) : Ct l mX12_port 5 0 0 A [va_rf x0] (gi res) := Ct.of (lv := [(0, va_rf x0)]) (ls := [some (va_rf x0), none]) (by decide) (by simp [lv_args, g_cat_rf, cat_i, cat_l]) rfl (by simp [g_cat_rf, cat_i, cat_l]) (fun G => (t_X12_port_0 N A x0 res h))
abbrev mX12_fault : gM := gMk yX12_fault cX12_fault 1 (some .int)
def f_X12_fault_0 (N : Nat) (A : hP) (x0 : Option Nat) : Option (Int32 × hP) := (oP A x0 11 0 (.int (0 : Int32))).bind fun A1 => (oI A1 x0 11 9).bind fun v2 => some (v2, A1)
set_option maxRecDepth 20000 in
set_option maxHeartbeats 4000000 in
theorem t_X12_fault_0 {l : Launch} {G : gS} (N : Nat) (A : hP) (x0 : Option Nat) (res : Int32 × hP) (h : f_X12_fault_0 N A x0 = some res) : AW l mX12_fault (g_rm 0 0 0) G (g_Qf G (gi res) 0 0) A 0 0 0 [some (va_rf x0)] [] := by
  unfold f_X12_fault_0 at h
  refine AW_aload_n dX12_fault_0 rfl ?_
  refine AW_iconst (v := 0) dX12_fault_1 (by decide) ?_
  refine AW_put (ci := 11) (k0 := 0) (C := RX12) (T := TX12) (N := 31) (ty0 := tyX12) dX12_fault_2 rfl (gT_u tU_X12) tyX12_ok nmX12 (by decide) (List.mem_cons_of_mem _ tF_X12_47) (Or.inl rfl) rfl rfl h (fun A1 _ h => ?_)
  refine AW_aload_n dX12_fault_5 rfl ?_
  refine AW_getI (ci := 11) (k0 := 9) (C := RX12) (T := TX12) (N := 31) dX12_fault_6 rfl (gT_u tU_X12) (by decide) (List.mem_cons_of_mem _ tF_X12_170) h (fun v2 _ h => ?_)
  exact AW_iret dX12_fault_9 rfl ⟨Nat.zero_le _, Nat.zero_le _⟩ h
def f_X12_fault (N : Nat) (A : hP) (x0 : Option Nat) : Option (Int32 × hP) := f_X12_fault_0 N A x0
set_option maxRecDepth 20000 in
theorem c_X12_fault {l : Launch} (N : Nat) (A : hP) (x0 : Option Nat) (res : Int32 × hP) (h : f_X12_fault N A x0 = some res) : Ct l mX12_fault 0 0 0 A [va_rf x0] (gi res) := Ct.of (lv := [(0, va_rf x0)]) (ls := [some (va_rf x0)]) (by decide) (by simp [lv_args, g_cat_rf, cat_i, cat_l]) rfl (by simp [g_cat_rf, cat_i, cat_l]) (fun G => (t_X12_fault_0 N A x0 res h))
abbrev mX12_isThere : gM := gMk yX12_isThere cX12_isThere 1 (some .boolean)
def f_X12_isThere_14 (N : Nat) (A : hP) (s0 : Int32) : Option (Int32 × hP) := if s0 = 0 ∨ s0 = 1 then some (s0, A) else none
set_option maxRecDepth 20000 in
set_option maxHeartbeats 4000000 in
theorem t_X12_isThere_14 {l : Launch} {G : gS} (N : Nat) (A : hP) (s0 : Int32) (res : Int32 × hP) (h : f_X12_isThere_14 N A s0 = some res) : AW l mX12_isThere (g_rm 0 0 0) G (g_Qf G (gi res) 0 0) A 0 0 14 [none] [.int s0] := by
  unfold f_X12_isThere_14 at h
  exact AW_zret dX12_isThere_14 rfl ⟨Nat.zero_le _, Nat.zero_le _⟩ h
def f_X12_isThere_0 (N : Nat) (A : hP) (x0 : Option Nat) : Option (Int32 × hP) := (oR A x0 11 5).bind fun v1 => (oA A v1 0 (2 : Int32)).bind fun v2 => if v2 ≤ (0) then (f_X12_isThere_14 N A (0 : Int32)) else (f_X12_isThere_14 N A (1 : Int32))
set_option maxRecDepth 20000 in
set_option maxHeartbeats 4000000 in
theorem t_X12_isThere_0 {l : Launch} {G : gS} (N : Nat) (A : hP) (x0 : Option Nat) (res : Int32 × hP) (h : f_X12_isThere_0 N A x0 = some res) : AW l mX12_isThere (g_rm 0 0 0) G (g_Qf G (gi res) 0 0) A 0 0 0 [some (va_rf x0)] [] := by
  unfold f_X12_isThere_0 at h
  refine AW_aload_n dX12_isThere_0 rfl ?_
  refine AW_getR (ci := 11) (k0 := 5) (C := RX12) (T := TX12) (N := 31) dX12_isThere_1 rfl (gT_u tU_X12) (by decide) (List.mem_cons_of_mem _ tF_X12_19) h (fun v1 _ h => ?_)
  refine AW_iconst (v := 2) dX12_isThere_4 (by decide) ?_
  refine AW_iald dX12_isThere_5 h (fun v2 _ h => ?_)
  refine AW_if_le (tgt := 13) dX12_isThere_6 (by decide) h (fun _ h => ?_) (fun _ h => ?_)
  · refine AW_iconst (v := 0) dX12_isThere_13 (by decide) ?_
    exact AW_fewer (fw_d fw_n) (t_X12_isThere_14 N _ _ _ h)
  · refine AW_iconst (v := 1) dX12_isThere_9 (by decide) ?_
    refine AW_goto (tgt := 14) dX12_isThere_10 (by decide) ?_
    exact AW_fewer (fw_d fw_n) (t_X12_isThere_14 N _ _ _ h)
def f_X12_isThere (N : Nat) (A : hP) (x0 : Option Nat) : Option (Int32 × hP) := f_X12_isThere_0 N A x0
set_option maxRecDepth 20000 in
theorem c_X12_isThere {l : Launch} (N : Nat) (A : hP) (x0 : Option Nat) (res : Int32 × hP) (h : f_X12_isThere N A x0 = some res) : Ct l mX12_isThere 0 0 0 A [va_rf x0] (gi res) := Ct.of (lv := [(0, va_rf x0)]) (ls := [some (va_rf x0)]) (by decide) (by simp [lv_args, g_cat_rf, cat_i, cat_l]) rfl (by simp [g_cat_rf, cat_i, cat_l]) (fun G => (t_X12_isThere_0 N A x0 res h))
abbrev mX12_isSet : gM := gMk yX12_isSet cX12_isSet 2 (some .boolean)
def f_X12_isSet_0 (N : Nat) (A : hP) (x0 : Option Nat) (x1 : Int32) : Option (Int32 × hP) := (oR A x0 11 5).bind fun v1 => (oA A v1 0 (3 : Int32)).bind fun v2 => (f_X12_in N A x1.toInt64 (0 : Int64) ((((1 : Int32) <<< (v2 &&& 31)) - (1 : Int32)).toInt64)).bind fun q3 => if q3.1 = 0 ∨ q3.1 = 1 then some (q3.1, q3.2) else none
set_option maxRecDepth 20000 in
set_option maxHeartbeats 4000000 in
theorem t_X12_isSet_0 {l : Launch} {G : gS} (N : Nat) (A : hP) (x0 : Option Nat) (x1 : Int32) (res : Int32 × hP) (h : f_X12_isSet_0 N A x0 x1 = some res) : AW l mX12_isSet (g_rm 1 0 0) G (g_Qf G (gi res) 0 0) A 0 0 0 [some (va_rf x0), some (.int x1)] [] := by
  unfold f_X12_isSet_0 at h
  refine AW_iload_n dX12_isSet_0 rfl ?_
  refine AW_i2l dX12_isSet_1 ?_
  refine AW_lconst (v := 0) dX12_isSet_2 (by decide) ?_
  refine AW_iconst (v := 1) dX12_isSet_3 (by decide) ?_
  refine AW_aload_n dX12_isSet_4 rfl ?_
  refine AW_getR (ci := 11) (k0 := 5) (C := RX12) (T := TX12) (N := 31) dX12_isSet_5 rfl (gT_u tU_X12) (by decide) (List.mem_cons_of_mem _ tF_X12_19) h (fun v1 _ h => ?_)
  refine AW_iconst (v := 3) dX12_isSet_8 (by decide) ?_
  refine AW_iald dX12_isSet_9 h (fun v2 _ h => ?_)
  refine AW_ishl dX12_isSet_10 ?_
  refine AW_iconst (v := 1) dX12_isSet_11 (by decide) ?_
  refine AW_isub dX12_isSet_12 ?_
  refine AW_i2l dX12_isSet_13 ?_
  refine AW_callSi (y := yX12_in) (cc := cX12_in) (n := 6) (d := 0) (mc := 0) (ms := 0) (np := 3) (ret := (some .boolean)) (As := [.long x1.toInt64, .long (0 : Int64), .long ((((1 : Int32) <<< (v2 &&& 31)) - (1 : Int32)).toInt64)]) (st := []) dX12_isSet_14 gT_s tM_X12_57 tS_X12_in tIni_X12 tY_X12_in (by decide +kernel) ⟨by decide, by decide⟩ ⟨by decide, by decide⟩ (Nat.le_of_ble_eq_true rfl) rfl h (fun q hq => c_X12_in N _ _ _ _ q hq) (fun q3 _ h => ?_)
  exact AW_zret dX12_isSet_17 rfl ⟨Nat.zero_le _, Nat.zero_le _⟩ h
def f_X12_isSet (N : Nat) (A : hP) (x0 : Option Nat) (x1 : Int32) : Option (Int32 × hP) := f_X12_isSet_0 N A x0 x1
set_option maxRecDepth 20000 in
theorem c_X12_isSet {l : Launch} (N : Nat) (A : hP) (x0 : Option Nat) (x1 : Int32) (res : Int32 × hP) (h : f_X12_isSet N A x0 x1 = some res) : Ct l mX12_isSet 1 0 0 A [va_rf x0, .int x1] (gi res) := Ct.of (lv := [(0, va_rf x0), (1, .int x1)]) (ls := [some (va_rf x0), some (.int x1)]) (by decide) (by simp [lv_args, g_cat_rf, cat_i, cat_l]) rfl (by simp [g_cat_rf, cat_i, cat_l]) (fun G => (t_X12_isSet_0 N A x0 x1 res h))
abbrev mX12_layTruly : gM := gMk yX12_layTruly cX12_layTruly 2 none
def f_X12_layTruly_2 (N : Nat) : Nat → hP → Option Nat → Int32 → Option (Unit × hP)
  | 0, _, _, _ => none
  | n + 1, A, x0, x1 => (oR A x0 11 5).bind fun v1 => (oA A v1 0 (3 : Int32)).bind fun v2 => if v2 ≤ x1 then ((oR A x0 11 5).bind fun v3 => (oA A v3 0 (0 : Int32)).bind fun v4 => (oP A x0 11 18 (.int v4)).bind fun A5 => (oR A5 x0 11 5).bind fun v6 => (oA A5 v6 0 (1 : Int32)).bind fun v7 => (oP A5 x0 11 19 (.int v7)).bind fun A8 => (oP A8 x0 11 20 (.int (-1000000 : Int32))).bind fun A9 => some ((), A9)) else ((oR A x0 11 17).bind fun v10 => (oR A x0 11 5).bind fun v11 => (oA A v11 0 (((5 : Int32) + ((2 : Int32) * x1)) + (1 : Int32))).bind fun v12 => (oS A v10 0 x1 v12).bind fun A13 => f_X12_layTruly_2 N n A13 x0 (x1 + (1 : Int32)))
set_option maxRecDepth 20000 in
set_option maxHeartbeats 4000000 in
theorem t_X12_layTruly_2 {l : Launch} {G : gS} (N : Nat) : ∀ (n : Nat) (A : hP) (x0 : Option Nat) (x1 : Int32) (res : Unit × hP), f_X12_layTruly_2 N n A x0 x1 = some res → AW l mX12_layTruly (g_rm 0 0 0) G (g_Qf G (gu res) 0 0) A 0 0 2 [some (va_rf x0), some (.int x1)] [] := by
  intro n
  induction n with
  | zero => intro A x0 x1 res h; cases h
  | succ n ih =>
    intro A x0 x1 res h
    rw [f_X12_layTruly_2] at h
    refine AW_iload_n dX12_layTruly_2 rfl ?_
    refine AW_aload_n dX12_layTruly_3 rfl ?_
    refine AW_getR (ci := 11) (k0 := 5) (C := RX12) (T := TX12) (N := 31) dX12_layTruly_4 rfl (gT_u tU_X12) (by decide) (List.mem_cons_of_mem _ tF_X12_19) h (fun v1 _ h => ?_)
    refine AW_iconst (v := 3) dX12_layTruly_7 (by decide) ?_
    refine AW_iald dX12_layTruly_8 h (fun v2 _ h => ?_)
    refine AW_icmp_ge (tgt := 36) dX12_layTruly_9 (by decide) h (fun _ h => ?_) (fun _ h => ?_)
    · refine AW_aload_n dX12_layTruly_36 rfl ?_
      refine AW_aload_n dX12_layTruly_37 rfl ?_
      refine AW_getR (ci := 11) (k0 := 5) (C := RX12) (T := TX12) (N := 31) dX12_layTruly_38 rfl (gT_u tU_X12) (by decide) (List.mem_cons_of_mem _ tF_X12_19) h (fun v3 _ h => ?_)
      refine AW_iconst (v := 0) dX12_layTruly_41 (by decide) ?_
      refine AW_iald dX12_layTruly_42 h (fun v4 _ h => ?_)
      refine AW_put (ci := 11) (k0 := 18) (C := RX12) (T := TX12) (N := 31) (ty0 := tyX12) dX12_layTruly_43 rfl (gT_u tU_X12) tyX12_ok nmX12 (by decide) (List.mem_cons_of_mem _ tF_X12_174) (Or.inl rfl) rfl rfl h (fun A5 _ h => ?_)
      refine AW_aload_n dX12_layTruly_46 rfl ?_
      refine AW_aload_n dX12_layTruly_47 rfl ?_
      refine AW_getR (ci := 11) (k0 := 5) (C := RX12) (T := TX12) (N := 31) dX12_layTruly_48 rfl (gT_u tU_X12) (by decide) (List.mem_cons_of_mem _ tF_X12_19) h (fun v6 _ h => ?_)
      refine AW_iconst (v := 1) dX12_layTruly_51 (by decide) ?_
      refine AW_iald dX12_layTruly_52 h (fun v7 _ h => ?_)
      refine AW_put (ci := 11) (k0 := 19) (C := RX12) (T := TX12) (N := 31) (ty0 := tyX12) dX12_layTruly_53 rfl (gT_u tU_X12) tyX12_ok nmX12 (by decide) (List.mem_cons_of_mem _ tF_X12_177) (Or.inl rfl) rfl rfl h (fun A8 _ h => ?_)
      refine AW_aload_n dX12_layTruly_56 rfl ?_
      refine AW_ldc (v := -1000000) dX12_layTruly_57 (List.mem_cons_of_mem _ tK_X12_83) ?_
      refine AW_put (ci := 11) (k0 := 20) (C := RX12) (T := TX12) (N := 31) (ty0 := tyX12) dX12_layTruly_59 rfl (gT_u tU_X12) tyX12_ok nmX12 (by decide) (List.mem_cons_of_mem _ tF_X12_180) (Or.inl rfl) rfl rfl h (fun A9 _ h => ?_)
      exact AW_vret dX12_layTruly_62 rfl ⟨Nat.zero_le _, Nat.zero_le _⟩ h
    · refine AW_aload_n dX12_layTruly_12 rfl ?_
      refine AW_getR (ci := 11) (k0 := 17) (C := RX12) (T := TX12) (N := 31) dX12_layTruly_13 rfl (gT_u tU_X12) (by decide) (List.mem_cons_of_mem _ tF_X12_28) h (fun v10 _ h => ?_)
      refine AW_iload_n dX12_layTruly_16 rfl ?_
      refine AW_aload_n dX12_layTruly_17 rfl ?_
      refine AW_getR (ci := 11) (k0 := 5) (C := RX12) (T := TX12) (N := 31) dX12_layTruly_18 rfl (gT_u tU_X12) (by decide) (List.mem_cons_of_mem _ tF_X12_19) h (fun v11 _ h => ?_)
      refine AW_iconst (v := 5) dX12_layTruly_21 (by decide) ?_
      refine AW_iconst (v := 2) dX12_layTruly_22 (by decide) ?_
      refine AW_iload_n dX12_layTruly_23 rfl ?_
      refine AW_imul dX12_layTruly_24 ?_
      refine AW_iadd dX12_layTruly_25 ?_
      refine AW_iconst (v := 1) dX12_layTruly_26 (by decide) ?_
      refine AW_iadd dX12_layTruly_27 ?_
      refine AW_iald dX12_layTruly_28 h (fun v12 _ h => ?_)
      refine AW_iast dX12_layTruly_29 h (fun A13 _ h => ?_)
      refine AW_iinc (v := 1) (ls' := [some (va_rf x0), some (.int (x1 + (1 : Int32)))]) dX12_layTruly_30 rfl (c1_r rfl) (by decide) (by decide) rfl ?_
      refine AW_goto (tgt := 2) dX12_layTruly_33 (by decide) ?_
      exact (ih _ _ _ _ h)
def f_X12_layTruly_0 (N : Nat) (A : hP) (x0 : Option Nat) : Option (Unit × hP) := f_X12_layTruly_2 N N A x0 (0 : Int32)
set_option maxRecDepth 20000 in
set_option maxHeartbeats 4000000 in
theorem t_X12_layTruly_0 {l : Launch} {G : gS} (N : Nat) (A : hP) (x0 : Option Nat) (res : Unit × hP) (h : f_X12_layTruly_0 N A x0 = some res) : AW l mX12_layTruly (g_rm 0 0 0) G (g_Qf G (gu res) 0 0) A 0 0 0 [some (va_rf x0), none] [] := by
  unfold f_X12_layTruly_0 at h
  refine AW_iconst (v := 0) dX12_layTruly_0 (by decide) ?_
  refine AW_istore_n (ls' := [some (va_rf x0), some (.int (0 : Int32))]) dX12_layTruly_1 (c1_r rfl) (by decide) rfl ?_
  exact (t_X12_layTruly_2 N N _ _ _ _ h)
def f_X12_layTruly (N : Nat) (A : hP) (x0 : Option Nat) : Option (Unit × hP) := f_X12_layTruly_0 N A x0
set_option maxRecDepth 20000 in
theorem c_X12_layTruly {l : Launch} (N : Nat) (A : hP) (x0 : Option Nat) (res : Unit × hP) (h : f_X12_layTruly N A x0 = some res) : Ct l mX12_layTruly 0 0 0 A [va_rf x0] (gu res) := Ct.of (lv := [(0, va_rf x0)]) (ls := [some (va_rf x0), none]) (by decide) (by simp [lv_args, g_cat_rf, cat_i, cat_l]) rfl (by simp [g_cat_rf, cat_i, cat_l]) (fun G => (t_X12_layTruly_0 N A x0 res h))
abbrev mX12_kindOf : gM := gMk yX12_kindOf cX12_kindOf 2 (some .int)
def f_X12_kindOf_0 (N : Nat) (A : hP) (x0 : Option Nat) (x1 : Int32) : Option (Int32 × hP) := (oR A x0 11 5).bind fun v1 => (oA A v1 0 ((5 : Int32) + ((2 : Int32) * x1))).bind fun v2 => some (v2, A)
set_option maxRecDepth 20000 in
set_option maxHeartbeats 4000000 in
theorem t_X12_kindOf_0 {l : Launch} {G : gS} (N : Nat) (A : hP) (x0 : Option Nat) (x1 : Int32) (res : Int32 × hP) (h : f_X12_kindOf_0 N A x0 x1 = some res) : AW l mX12_kindOf (g_rm 0 0 0) G (g_Qf G (gi res) 0 0) A 0 0 0 [some (va_rf x0), some (.int x1)] [] := by
  unfold f_X12_kindOf_0 at h
  refine AW_aload_n dX12_kindOf_0 rfl ?_
  refine AW_getR (ci := 11) (k0 := 5) (C := RX12) (T := TX12) (N := 31) dX12_kindOf_1 rfl (gT_u tU_X12) (by decide) (List.mem_cons_of_mem _ tF_X12_19) h (fun v1 _ h => ?_)
  refine AW_iconst (v := 5) dX12_kindOf_4 (by decide) ?_
  refine AW_iconst (v := 2) dX12_kindOf_5 (by decide) ?_
  refine AW_iload_n dX12_kindOf_6 rfl ?_
  refine AW_imul dX12_kindOf_7 ?_
  refine AW_iadd dX12_kindOf_8 ?_
  refine AW_iald dX12_kindOf_9 h (fun v2 _ h => ?_)
  exact AW_iret dX12_kindOf_10 rfl ⟨Nat.zero_le _, Nat.zero_le _⟩ h
def f_X12_kindOf (N : Nat) (A : hP) (x0 : Option Nat) (x1 : Int32) : Option (Int32 × hP) := f_X12_kindOf_0 N A x0 x1
set_option maxRecDepth 20000 in
theorem c_X12_kindOf {l : Launch} (N : Nat) (A : hP) (x0 : Option Nat) (x1 : Int32) (res : Int32 × hP) (h : f_X12_kindOf N A x0 x1 = some res) : Ct l mX12_kindOf 0 0 0 A [va_rf x0, .int x1] (gi res) := Ct.of (lv := [(0, va_rf x0), (1, .int x1)]) (ls := [some (va_rf x0), some (.int x1)]) (by decide) (by simp [lv_args, g_cat_rf, cat_i, cat_l]) rfl (by simp [g_cat_rf, cat_i, cat_l]) (fun G => (t_X12_kindOf_0 N A x0 x1 res h))
abbrev mX12_heavyOn : gM := gMk yX12_heavyOn cX12_heavyOn 3 (some .int)
def f_X12_heavyOn_62 (N : Nat) (A : hP) (s0 : Int32) : Option (Int32 × hP) := some (s0, A)
set_option maxRecDepth 20000 in
set_option maxHeartbeats 4000000 in
theorem t_X12_heavyOn_62 {l : Launch} {G : gS} (N : Nat) (A : hP) (s0 : Int32) (res : Int32 × hP) (h : f_X12_heavyOn_62 N A s0 = some res) : AW l mX12_heavyOn (g_rm 1 0 0) G (g_Qf G (gi res) 0 0) A 0 0 62 [none, none, none] [.int s0] := by
  unfold f_X12_heavyOn_62 at h
  exact AW_iret dX12_heavyOn_62 rfl ⟨Nat.zero_le _, Nat.zero_le _⟩ h
def f_X12_heavyOn_0 (N : Nat) (A : hP) (x0 : Option Nat) (x1 : Int32) (x2 : Int32) : Option (Int32 × hP) := (oCk A x0 11).bind fun _ => (f_X12_kindOf N A x0 x1).bind fun q1 => if q1.1 = (2 : Int32) then ((oR q1.2 x0 11 17).bind fun v2 => (oA q1.2 v2 0 x1).bind fun v3 => (oDv x2 (3 : Int32)).bind fun v4 => if v4 ≤ v3 then ((oR q1.2 x0 11 17).bind fun v5 => (oA q1.2 v5 0 x1).bind fun v6 => (oDv x2 (3 : Int32)).bind fun v7 => f_X12_heavyOn_62 N q1.2 (v6 - v7)) else (f_X12_heavyOn_62 N q1.2 (0 : Int32))) else (if q1.1 = (3 : Int32) then ((oR q1.2 x0 11 17).bind fun v8 => (oA q1.2 v8 0 x1).bind fun v9 => (oDv x2 (4 : Int32)).bind fun v10 => some (v9 + v10, q1.2)) else (if q1.1 = (4 : Int32) then ((oR q1.2 x0 11 17).bind fun v11 => (oA q1.2 v11 0 x1).bind fun v12 => some (v12, q1.2)) else (if q1.1 = (5 : Int32) then ((oR q1.2 x0 11 17).bind fun v13 => (oA q1.2 v13 0 x1).bind fun v14 => some ((10 : Int32) * v14, q1.2)) else ((oR q1.2 x0 11 17).bind fun v15 => (oA q1.2 v15 0 x1).bind fun v16 => some (v16, q1.2)))))
set_option maxRecDepth 20000 in
set_option maxHeartbeats 4000000 in
theorem t_X12_heavyOn_0 {l : Launch} {G : gS} (N : Nat) (A : hP) (x0 : Option Nat) (x1 : Int32) (x2 : Int32) (res : Int32 × hP) (h : f_X12_heavyOn_0 N A x0 x1 x2 = some res) : AW l mX12_heavyOn (g_rm 1 0 0) G (g_Qf G (gi res) 0 0) A 0 0 0 [some (va_rf x0), some (.int x1), some (.int x2)] [] := by
  unfold f_X12_heavyOn_0 at h
  refine AW_aload_n dX12_heavyOn_0 rfl ?_
  refine AW_iload_n dX12_heavyOn_1 rfl ?_
  refine AW_callVi (y := yX12_kindOf) (cc := cX12_kindOf) (n := 2) (d := 0) (mc := 0) (ms := 0) (np := 1) (ret := (some .int)) (As := [.int x1]) (st := []) (ci := 11) dX12_heavyOn_2 gT_s rfl tM_X12_183 tI_X12_kindOf selp_X12_kindOf tIni_X12 tY_X12_kindOf (by decide +kernel) ⟨by decide, by decide⟩ ⟨by decide, by decide⟩ (Nat.le_of_ble_eq_true rfl) rfl h (fun q hq => c_X12_kindOf N _ _ _ q hq) (fun q1 _ h => ?_)
  refine AW_case h (fun e5_2 h => ?_) (fun e5_2 h => ?_)
  · refine AW_tabIn (c := 2) (off := 31) (tgt := 36) dX12_heavyOn_5 e5_2 (by decide) (by decide) (by decide) (by decide) ?_
    refine AW_aload_n dX12_heavyOn_36 rfl ?_
    refine AW_getR (ci := 11) (k0 := 17) (C := RX12) (T := TX12) (N := 31) dX12_heavyOn_37 rfl (gT_u tU_X12) (by decide) (List.mem_cons_of_mem _ tF_X12_28) h (fun v2 _ h => ?_)
    refine AW_iload_n dX12_heavyOn_40 rfl ?_
    refine AW_iald dX12_heavyOn_41 h (fun v3 _ h => ?_)
    refine AW_iload_n dX12_heavyOn_42 rfl ?_
    refine AW_iconst (v := 3) dX12_heavyOn_43 (by decide) ?_
    refine AW_div dX12_heavyOn_44 h (fun v4 _ h => ?_)
    refine AW_icmp_ge (tgt := 52) dX12_heavyOn_45 (by decide) h (fun _ h => ?_) (fun _ h => ?_)
    · refine AW_aload_n dX12_heavyOn_52 rfl ?_
      refine AW_getR (ci := 11) (k0 := 17) (C := RX12) (T := TX12) (N := 31) dX12_heavyOn_53 rfl (gT_u tU_X12) (by decide) (List.mem_cons_of_mem _ tF_X12_28) h (fun v5 _ h => ?_)
      refine AW_iload_n dX12_heavyOn_56 rfl ?_
      refine AW_iald dX12_heavyOn_57 h (fun v6 _ h => ?_)
      refine AW_iload_n dX12_heavyOn_58 rfl ?_
      refine AW_iconst (v := 3) dX12_heavyOn_59 (by decide) ?_
      refine AW_div dX12_heavyOn_60 h (fun v7 _ h => ?_)
      refine AW_isub dX12_heavyOn_61 ?_
      exact AW_fewer (fw_d (fw_d (fw_d fw_n))) (t_X12_heavyOn_62 N _ _ _ h)
    · refine AW_iconst (v := 0) dX12_heavyOn_48 (by decide) ?_
      refine AW_goto (tgt := 62) dX12_heavyOn_49 (by decide) ?_
      exact AW_fewer (fw_d (fw_d (fw_d fw_n))) (t_X12_heavyOn_62 N _ _ _ h)
  refine AW_case h (fun e5_3 h => ?_) (fun e5_3 h => ?_)
  · refine AW_tabIn (c := 3) (off := 58) (tgt := 63) dX12_heavyOn_5 e5_3 (by decide) (by decide) (by decide) (by decide) ?_
    refine AW_aload_n dX12_heavyOn_63 rfl ?_
    refine AW_getR (ci := 11) (k0 := 17) (C := RX12) (T := TX12) (N := 31) dX12_heavyOn_64 rfl (gT_u tU_X12) (by decide) (List.mem_cons_of_mem _ tF_X12_28) h (fun v8 _ h => ?_)
    refine AW_iload_n dX12_heavyOn_67 rfl ?_
    refine AW_iald dX12_heavyOn_68 h (fun v9 _ h => ?_)
    refine AW_iload_n dX12_heavyOn_69 rfl ?_
    refine AW_iconst (v := 4) dX12_heavyOn_70 (by decide) ?_
    refine AW_div dX12_heavyOn_71 h (fun v10 _ h => ?_)
    refine AW_iadd dX12_heavyOn_72 ?_
    exact AW_iret dX12_heavyOn_73 rfl ⟨Nat.zero_le _, Nat.zero_le _⟩ h
  refine AW_case h (fun e5_4 h => ?_) (fun e5_4 h => ?_)
  · refine AW_tabIn (c := 4) (off := 79) (tgt := 84) dX12_heavyOn_5 e5_4 (by decide) (by decide) (by decide) (by decide) ?_
    refine AW_aload_n dX12_heavyOn_84 rfl ?_
    refine AW_getR (ci := 11) (k0 := 17) (C := RX12) (T := TX12) (N := 31) dX12_heavyOn_85 rfl (gT_u tU_X12) (by decide) (List.mem_cons_of_mem _ tF_X12_28) h (fun v11 _ h => ?_)
    refine AW_iload_n dX12_heavyOn_88 rfl ?_
    refine AW_iald dX12_heavyOn_89 h (fun v12 _ h => ?_)
    exact AW_iret dX12_heavyOn_90 rfl ⟨Nat.zero_le _, Nat.zero_le _⟩ h
  refine AW_case h (fun e5_5 h => ?_) (fun e5_5 h => ?_)
  · refine AW_tabIn (c := 5) (off := 69) (tgt := 74) dX12_heavyOn_5 e5_5 (by decide) (by decide) (by decide) (by decide) ?_
    refine AW_bipush (v := 10) dX12_heavyOn_74 (by decide) ?_
    refine AW_aload_n dX12_heavyOn_76 rfl ?_
    refine AW_getR (ci := 11) (k0 := 17) (C := RX12) (T := TX12) (N := 31) dX12_heavyOn_77 rfl (gT_u tU_X12) (by decide) (List.mem_cons_of_mem _ tF_X12_28) h (fun v13 _ h => ?_)
    refine AW_iload_n dX12_heavyOn_80 rfl ?_
    refine AW_iald dX12_heavyOn_81 h (fun v14 _ h => ?_)
    refine AW_imul dX12_heavyOn_82 ?_
    exact AW_iret dX12_heavyOn_83 rfl ⟨Nat.zero_le _, Nat.zero_le _⟩ h
  refine AW_tabOut (tgt := 84) dX12_heavyOn_5 (by have a2 := i32_ne e5_2; have b2 : (2 : Int32).toInt = 2 := (by decide); have a3 := i32_ne e5_3; have b3 : (3 : Int32).toInt = 3 := (by decide); have a4 := i32_ne e5_4; have b4 : (4 : Int32).toInt = 4 := (by decide); have a5 := i32_ne e5_5; have b5 : (5 : Int32).toInt = 5 := (by decide); omega) (by decide) ?_
  refine AW_aload_n dX12_heavyOn_84 rfl ?_
  refine AW_getR (ci := 11) (k0 := 17) (C := RX12) (T := TX12) (N := 31) dX12_heavyOn_85 rfl (gT_u tU_X12) (by decide) (List.mem_cons_of_mem _ tF_X12_28) h (fun v15 _ h => ?_)
  refine AW_iload_n dX12_heavyOn_88 rfl ?_
  refine AW_iald dX12_heavyOn_89 h (fun v16 _ h => ?_)
  exact AW_iret dX12_heavyOn_90 rfl ⟨Nat.zero_le _, Nat.zero_le _⟩ h
def f_X12_heavyOn (N : Nat) (A : hP) (x0 : Option Nat) (x1 : Int32) (x2 : Int32) : Option (Int32 × hP) := f_X12_heavyOn_0 N A x0 x1 x2
set_option maxRecDepth 20000 in
theorem c_X12_heavyOn {l : Launch} (N : Nat) (A : hP) (x0 : Option Nat) (x1 : Int32) (x2 : Int32) (res : Int32 × hP) (h : f_X12_heavyOn N A x0 x1 x2 = some res) : Ct l mX12_heavyOn 1 0 0 A [va_rf x0, .int x1, .int x2] (gi res) := Ct.of (lv := [(0, va_rf x0), (1, .int x1), (2, .int x2)]) (ls := [some (va_rf x0), some (.int x1), some (.int x2)]) (by decide) (by simp [lv_args, g_cat_rf, cat_i, cat_l]) rfl (by simp [g_cat_rf, cat_i, cat_l]) (fun G => (t_X12_heavyOn_0 N A x0 x1 x2 res h))
abbrev mX12_loadOn : gM := gMk yX12_loadOn cX12_loadOn 4 (some .int)
def f_X12_loadOn_54 (N : Nat) (r16 : hP → Option Nat → Int32 → Int32 → Int32 → Option (Int32 × hP)) (A : hP) (x0 : Option Nat) (x1 : Int32) (x3 : Int32) (s0 : Int32) (s1 : Int32) : Option (Int32 × hP) := r16 A x0 x1 (s0 + s1) (x3 + (1 : Int32))
set_option maxRecDepth 20000 in
set_option maxHeartbeats 4000000 in
theorem t_X12_loadOn_54 {l : Launch} {G : gS} (N : Nat) (r16 : hP → Option Nat → Int32 → Int32 → Int32 → Option (Int32 × hP)) (hr16 : ∀ (A : hP) (x0 : Option Nat) (x1 : Int32) (x2 : Int32) (x3 : Int32) (res : Int32 × hP), r16 A x0 x1 x2 x3 = some res → AW l mX12_loadOn (g_rm 2 0 0) G (g_Qf G (gi res) 0 0) A 0 0 16 [some (va_rf x0), some (.int x1), some (.int x2), some (.int x3)] []) (A : hP) (x0 : Option Nat) (x1 : Int32) (x3 : Int32) (s0 : Int32) (s1 : Int32) (res : Int32 × hP) (h : f_X12_loadOn_54 N r16 A x0 x1 x3 s0 s1 = some res) : AW l mX12_loadOn (g_rm 2 0 0) G (g_Qf G (gi res) 0 0) A 0 0 54 [some (va_rf x0), some (.int x1), none, some (.int x3)] [.int s1, .int s0] := by
  unfold f_X12_loadOn_54 at h
  refine AW_iadd dX12_loadOn_54 ?_
  refine AW_istore_n (ls' := [some (va_rf x0), some (.int x1), some (.int (s0 + s1)), some (.int x3)]) dX12_loadOn_55 (c1_i rfl) (by decide) rfl ?_
  refine AW_iinc (v := 1) (ls' := [some (va_rf x0), some (.int x1), some (.int (s0 + s1)), some (.int (x3 + (1 : Int32)))]) dX12_loadOn_56 rfl (c1_i rfl) (by decide) (by decide) rfl ?_
  refine AW_goto (tgt := 16) dX12_loadOn_59 (by decide) ?_
  exact (hr16 _ _ _ _ _ _ h)
def f_X12_loadOn_16 (N : Nat) : Nat → hP → Option Nat → Int32 → Int32 → Int32 → Option (Int32 × hP)
  | 0, _, _, _, _, _ => none
  | n + 1, A, x0, x1, x2, x3 => (oR A x0 11 5).bind fun v1 => (oA A v1 0 (3 : Int32)).bind fun v2 => if v2 ≤ x3 then (some (x2, A)) else ((oR A x0 11 5).bind fun v3 => (oA A v3 0 ((13 : Int32) + x1)).bind fun v4 => if ((v4 >>> (x3 &&& 31)) &&& (1 : Int32)) = (1 : Int32) then ((oCk A x0 11).bind fun _ => (f_X12_heavyOn N A x0 x3 x1).bind fun q5 => f_X12_loadOn_54 N (f_X12_loadOn_16 N n) q5.2 x0 x1 x3 x2 q5.1) else (f_X12_loadOn_54 N (f_X12_loadOn_16 N n) A x0 x1 x3 x2 (0 : Int32)))
set_option maxRecDepth 20000 in
set_option maxHeartbeats 4000000 in
theorem t_X12_loadOn_16 {l : Launch} {G : gS} (N : Nat) : ∀ (n : Nat) (A : hP) (x0 : Option Nat) (x1 : Int32) (x2 : Int32) (x3 : Int32) (res : Int32 × hP), f_X12_loadOn_16 N n A x0 x1 x2 x3 = some res → AW l mX12_loadOn (g_rm 2 0 0) G (g_Qf G (gi res) 0 0) A 0 0 16 [some (va_rf x0), some (.int x1), some (.int x2), some (.int x3)] [] := by
  intro n
  induction n with
  | zero => intro A x0 x1 x2 x3 res h; cases h
  | succ n ih =>
    intro A x0 x1 x2 x3 res h
    rw [f_X12_loadOn_16] at h
    refine AW_iload_n dX12_loadOn_16 rfl ?_
    refine AW_aload_n dX12_loadOn_17 rfl ?_
    refine AW_getR (ci := 11) (k0 := 5) (C := RX12) (T := TX12) (N := 31) dX12_loadOn_18 rfl (gT_u tU_X12) (by decide) (List.mem_cons_of_mem _ tF_X12_19) h (fun v1 _ h => ?_)
    refine AW_iconst (v := 3) dX12_loadOn_21 (by decide) ?_
    refine AW_iald dX12_loadOn_22 h (fun v2 _ h => ?_)
    refine AW_icmp_ge (tgt := 62) dX12_loadOn_23 (by decide) h (fun _ h => ?_) (fun _ h => ?_)
    · refine AW_iload_n dX12_loadOn_62 rfl ?_
      exact AW_iret dX12_loadOn_63 rfl ⟨Nat.zero_le _, Nat.zero_le _⟩ h
    · refine AW_iload_n dX12_loadOn_26 rfl ?_
      refine AW_aload_n dX12_loadOn_27 rfl ?_
      refine AW_getR (ci := 11) (k0 := 5) (C := RX12) (T := TX12) (N := 31) dX12_loadOn_28 rfl (gT_u tU_X12) (by decide) (List.mem_cons_of_mem _ tF_X12_19) h (fun v3 _ h => ?_)
      refine AW_bipush (v := 13) dX12_loadOn_31 (by decide) ?_
      refine AW_iload_n dX12_loadOn_33 rfl ?_
      refine AW_iadd dX12_loadOn_34 ?_
      refine AW_iald dX12_loadOn_35 h (fun v4 _ h => ?_)
      refine AW_iload_n dX12_loadOn_36 rfl ?_
      refine AW_ishr dX12_loadOn_37 ?_
      refine AW_iconst (v := 1) dX12_loadOn_38 (by decide) ?_
      refine AW_iand dX12_loadOn_39 ?_
      refine AW_iconst (v := 1) dX12_loadOn_40 (by decide) ?_
      refine AW_icmp_ne (tgt := 53) dX12_loadOn_41 (by decide) h (fun _ h => ?_) (fun _ h => ?_)
      · refine AW_iconst (v := 0) dX12_loadOn_53 (by decide) ?_
        exact AW_fewer (fw_k (fw_k (fw_d (fw_k fw_n)))) (t_X12_loadOn_54 N (f_X12_loadOn_16 N n) ih _ _ _ _ _ _ _ h)
      · refine AW_aload_n dX12_loadOn_44 rfl ?_
        refine AW_iload_n dX12_loadOn_45 rfl ?_
        refine AW_iload_n dX12_loadOn_46 rfl ?_
        refine AW_callVi (y := yX12_heavyOn) (cc := cX12_heavyOn) (n := 3) (d := 1) (mc := 0) (ms := 0) (np := 2) (ret := (some .int)) (As := [.int x3, .int x1]) (st := [.int x2]) (ci := 11) dX12_loadOn_47 gT_s rfl tM_X12_186 tI_X12_heavyOn selp_X12_heavyOn tIni_X12 tY_X12_heavyOn (by decide +kernel) ⟨by decide, by decide⟩ ⟨by decide, by decide⟩ (Nat.le_of_ble_eq_true rfl) rfl h (fun q hq => c_X12_heavyOn N _ _ _ _ q hq) (fun q5 _ h => ?_)
        refine AW_goto (tgt := 54) dX12_loadOn_50 (by decide) ?_
        exact AW_fewer (fw_k (fw_k (fw_d (fw_k fw_n)))) (t_X12_loadOn_54 N (f_X12_loadOn_16 N n) ih _ _ _ _ _ _ _ h)
def f_X12_loadOn_13 (N : Nat) (A : hP) (x0 : Option Nat) (x1 : Int32) (s0 : Int32) : Option (Int32 × hP) := f_X12_loadOn_16 N N A x0 x1 s0 (0 : Int32)
set_option maxRecDepth 20000 in
set_option maxHeartbeats 4000000 in
theorem t_X12_loadOn_13 {l : Launch} {G : gS} (N : Nat) (A : hP) (x0 : Option Nat) (x1 : Int32) (s0 : Int32) (res : Int32 × hP) (h : f_X12_loadOn_13 N A x0 x1 s0 = some res) : AW l mX12_loadOn (g_rm 2 0 0) G (g_Qf G (gi res) 0 0) A 0 0 13 [some (va_rf x0), some (.int x1), none, none] [.int s0] := by
  unfold f_X12_loadOn_13 at h
  refine AW_istore_n (ls' := [some (va_rf x0), some (.int x1), some (.int s0), none]) dX12_loadOn_13 (c1_i rfl) (by decide) rfl ?_
  refine AW_iconst (v := 0) dX12_loadOn_14 (by decide) ?_
  refine AW_istore_n (ls' := [some (va_rf x0), some (.int x1), some (.int s0), some (.int (0 : Int32))]) dX12_loadOn_15 (c1_i rfl) (by decide) rfl ?_
  exact (t_X12_loadOn_16 N N _ _ _ _ _ _ h)
def f_X12_loadOn_0 (N : Nat) (A : hP) (x0 : Option Nat) (x1 : Int32) : Option (Int32 × hP) := (oI A x0 11 20).bind fun v6 => if x1 = v6 then (f_X12_loadOn_13 N A x0 x1 (1 : Int32)) else (f_X12_loadOn_13 N A x0 x1 (0 : Int32))
set_option maxRecDepth 20000 in
set_option maxHeartbeats 4000000 in
theorem t_X12_loadOn_0 {l : Launch} {G : gS} (N : Nat) (A : hP) (x0 : Option Nat) (x1 : Int32) (res : Int32 × hP) (h : f_X12_loadOn_0 N A x0 x1 = some res) : AW l mX12_loadOn (g_rm 2 0 0) G (g_Qf G (gi res) 0 0) A 0 0 0 [some (va_rf x0), some (.int x1), none, none] [] := by
  unfold f_X12_loadOn_0 at h
  refine AW_iload_n dX12_loadOn_0 rfl ?_
  refine AW_aload_n dX12_loadOn_1 rfl ?_
  refine AW_getI (ci := 11) (k0 := 20) (C := RX12) (T := TX12) (N := 31) dX12_loadOn_2 rfl (gT_u tU_X12) (by decide) (List.mem_cons_of_mem _ tF_X12_180) h (fun v6 _ h => ?_)
  refine AW_icmp_ne (tgt := 12) dX12_loadOn_5 (by decide) h (fun _ h => ?_) (fun _ h => ?_)
  · refine AW_iconst (v := 0) dX12_loadOn_12 (by decide) ?_
    exact (t_X12_loadOn_13 N _ _ _ _ _ h)
  · refine AW_iconst (v := 1) dX12_loadOn_8 (by decide) ?_
    refine AW_goto (tgt := 13) dX12_loadOn_9 (by decide) ?_
    exact (t_X12_loadOn_13 N _ _ _ _ _ h)
def f_X12_loadOn (N : Nat) (A : hP) (x0 : Option Nat) (x1 : Int32) : Option (Int32 × hP) := f_X12_loadOn_0 N A x0 x1
set_option maxRecDepth 20000 in
theorem c_X12_loadOn {l : Launch} (N : Nat) (A : hP) (x0 : Option Nat) (x1 : Int32) (res : Int32 × hP) (h : f_X12_loadOn N A x0 x1 = some res) : Ct l mX12_loadOn 2 0 0 A [va_rf x0, .int x1] (gi res) := Ct.of (lv := [(0, va_rf x0), (1, .int x1)]) (ls := [some (va_rf x0), some (.int x1), none, none]) (by decide) (by simp [lv_args, g_cat_rf, cat_i, cat_l]) rfl (by simp [g_cat_rf, cat_i, cat_l]) (fun G => (t_X12_loadOn_0 N A x0 x1 res h))
abbrev mX12_isFresh : gM := gMk yX12_isFresh cX12_isFresh 4 (some .boolean)
def f_X12_isFresh_49 (N : Nat) (r4 : hP → Option Nat → Int32 → Int32 → Int32 → Option (Int32 × hP)) (A : hP) (x0 : Option Nat) (x1 : Int32) (x3 : Int32) (s0 : Int32) : Option (Int32 × hP) := r4 A x0 x1 s0 (x3 + (1 : Int32))
set_option maxRecDepth 20000 in
set_option maxHeartbeats 4000000 in
theorem t_X12_isFresh_49 {l : Launch} {G : gS} (N : Nat) (r4 : hP → Option Nat → Int32 → Int32 → Int32 → Option (Int32 × hP)) (hr4 : ∀ (A : hP) (x0 : Option Nat) (x1 : Int32) (x2 : Int32) (x3 : Int32) (res : Int32 × hP), r4 A x0 x1 x2 x3 = some res → AW l mX12_isFresh (g_rm 1 0 0) G (g_Qf G (gi res) 0 0) A 0 0 4 [some (va_rf x0), some (.int x1), some (.int x2), some (.int x3)] []) (A : hP) (x0 : Option Nat) (x1 : Int32) (x3 : Int32) (s0 : Int32) (res : Int32 × hP) (h : f_X12_isFresh_49 N r4 A x0 x1 x3 s0 = some res) : AW l mX12_isFresh (g_rm 1 0 0) G (g_Qf G (gi res) 0 0) A 0 0 49 [some (va_rf x0), some (.int x1), none, some (.int x3)] [.int s0] := by
  unfold f_X12_isFresh_49 at h
  refine AW_istore_n (ls' := [some (va_rf x0), some (.int x1), some (.int s0), some (.int x3)]) dX12_isFresh_49 (c1_i rfl) (by decide) rfl ?_
  refine AW_iinc (v := 1) (ls' := [some (va_rf x0), some (.int x1), some (.int s0), some (.int (x3 + (1 : Int32)))]) dX12_isFresh_50 rfl (c1_i rfl) (by decide) (by decide) rfl ?_
  refine AW_goto (tgt := 4) dX12_isFresh_53 (by decide) ?_
  exact (hr4 _ _ _ _ _ _ h)
def f_X12_isFresh_44 (N : Nat) (r4 : hP → Option Nat → Int32 → Int32 → Int32 → Option (Int32 × hP)) (A : hP) (x0 : Option Nat) (x1 : Int32) (x3 : Int32) : Option (Int32 × hP) := f_X12_isFresh_49 N r4 A x0 x1 x3 (1 : Int32)
set_option maxRecDepth 20000 in
set_option maxHeartbeats 4000000 in
theorem t_X12_isFresh_44 {l : Launch} {G : gS} (N : Nat) (r4 : hP → Option Nat → Int32 → Int32 → Int32 → Option (Int32 × hP)) (hr4 : ∀ (A : hP) (x0 : Option Nat) (x1 : Int32) (x2 : Int32) (x3 : Int32) (res : Int32 × hP), r4 A x0 x1 x2 x3 = some res → AW l mX12_isFresh (g_rm 1 0 0) G (g_Qf G (gi res) 0 0) A 0 0 4 [some (va_rf x0), some (.int x1), some (.int x2), some (.int x3)] []) (A : hP) (x0 : Option Nat) (x1 : Int32) (x3 : Int32) (res : Int32 × hP) (h : f_X12_isFresh_44 N r4 A x0 x1 x3 = some res) : AW l mX12_isFresh (g_rm 1 0 0) G (g_Qf G (gi res) 0 0) A 0 0 44 [some (va_rf x0), some (.int x1), none, some (.int x3)] [] := by
  unfold f_X12_isFresh_44 at h
  refine AW_iconst (v := 1) dX12_isFresh_44 (by decide) ?_
  refine AW_goto (tgt := 49) dX12_isFresh_45 (by decide) ?_
  exact (t_X12_isFresh_49 N r4 hr4 _ _ _ _ _ _ h)
def f_X12_isFresh_48 (N : Nat) (r4 : hP → Option Nat → Int32 → Int32 → Int32 → Option (Int32 × hP)) (A : hP) (x0 : Option Nat) (x1 : Int32) (x3 : Int32) : Option (Int32 × hP) := f_X12_isFresh_49 N r4 A x0 x1 x3 (0 : Int32)
set_option maxRecDepth 20000 in
set_option maxHeartbeats 4000000 in
theorem t_X12_isFresh_48 {l : Launch} {G : gS} (N : Nat) (r4 : hP → Option Nat → Int32 → Int32 → Int32 → Option (Int32 × hP)) (hr4 : ∀ (A : hP) (x0 : Option Nat) (x1 : Int32) (x2 : Int32) (x3 : Int32) (res : Int32 × hP), r4 A x0 x1 x2 x3 = some res → AW l mX12_isFresh (g_rm 1 0 0) G (g_Qf G (gi res) 0 0) A 0 0 4 [some (va_rf x0), some (.int x1), some (.int x2), some (.int x3)] []) (A : hP) (x0 : Option Nat) (x1 : Int32) (x3 : Int32) (res : Int32 × hP) (h : f_X12_isFresh_48 N r4 A x0 x1 x3 = some res) : AW l mX12_isFresh (g_rm 1 0 0) G (g_Qf G (gi res) 0 0) A 0 0 48 [some (va_rf x0), some (.int x1), none, some (.int x3)] [] := by
  unfold f_X12_isFresh_48 at h
  refine AW_iconst (v := 0) dX12_isFresh_48 (by decide) ?_
  exact (t_X12_isFresh_49 N r4 hr4 _ _ _ _ _ _ h)
def f_X12_isFresh_4 (N : Nat) : Nat → hP → Option Nat → Int32 → Int32 → Int32 → Option (Int32 × hP)
  | 0, _, _, _, _, _ => none
  | n + 1, A, x0, x1, x2, x3 => (oR A x0 11 5).bind fun v1 => (oA A v1 0 (3 : Int32)).bind fun v2 => if v2 ≤ x3 then (if x2 = 0 ∨ x2 = 1 then some (x2, A) else none) else (if x2 = (0) then ((oR A x0 11 5).bind fun v3 => (oA A v3 0 ((13 : Int32) + x1)).bind fun v4 => if ((v4 >>> (x3 &&& 31)) &&& (1 : Int32)) = (1 : Int32) then ((oCk A x0 11).bind fun _ => (f_X12_kindOf N A x0 x3).bind fun q5 => if q5.1 = (4 : Int32) then (f_X12_isFresh_44 N (f_X12_isFresh_4 N n) q5.2 x0 x1 x3) else (f_X12_isFresh_48 N (f_X12_isFresh_4 N n) q5.2 x0 x1 x3)) else (f_X12_isFresh_48 N (f_X12_isFresh_4 N n) A x0 x1 x3)) else (f_X12_isFresh_44 N (f_X12_isFresh_4 N n) A x0 x1 x3))
set_option maxRecDepth 20000 in
set_option maxHeartbeats 4000000 in
theorem t_X12_isFresh_4 {l : Launch} {G : gS} (N : Nat) : ∀ (n : Nat) (A : hP) (x0 : Option Nat) (x1 : Int32) (x2 : Int32) (x3 : Int32) (res : Int32 × hP), f_X12_isFresh_4 N n A x0 x1 x2 x3 = some res → AW l mX12_isFresh (g_rm 1 0 0) G (g_Qf G (gi res) 0 0) A 0 0 4 [some (va_rf x0), some (.int x1), some (.int x2), some (.int x3)] [] := by
  intro n
  induction n with
  | zero => intro A x0 x1 x2 x3 res h; cases h
  | succ n ih =>
    intro A x0 x1 x2 x3 res h
    rw [f_X12_isFresh_4] at h
    refine AW_iload_n dX12_isFresh_4 rfl ?_
    refine AW_aload_n dX12_isFresh_5 rfl ?_
    refine AW_getR (ci := 11) (k0 := 5) (C := RX12) (T := TX12) (N := 31) dX12_isFresh_6 rfl (gT_u tU_X12) (by decide) (List.mem_cons_of_mem _ tF_X12_19) h (fun v1 _ h => ?_)
    refine AW_iconst (v := 3) dX12_isFresh_9 (by decide) ?_
    refine AW_iald dX12_isFresh_10 h (fun v2 _ h => ?_)
    refine AW_icmp_ge (tgt := 56) dX12_isFresh_11 (by decide) h (fun _ h => ?_) (fun _ h => ?_)
    · refine AW_iload_n dX12_isFresh_56 rfl ?_
      exact AW_zret dX12_isFresh_57 rfl ⟨Nat.zero_le _, Nat.zero_le _⟩ h
    · refine AW_iload_n dX12_isFresh_14 rfl ?_
      refine AW_if_ne (tgt := 44) dX12_isFresh_15 (by decide) h (fun _ h => ?_) (fun _ h => ?_)
      · exact AW_fewer (fw_k (fw_k (fw_d (fw_k fw_n)))) (t_X12_isFresh_44 N (f_X12_isFresh_4 N n) ih _ _ _ _ _ h)
      · refine AW_aload_n dX12_isFresh_18 rfl ?_
        refine AW_getR (ci := 11) (k0 := 5) (C := RX12) (T := TX12) (N := 31) dX12_isFresh_19 rfl (gT_u tU_X12) (by decide) (List.mem_cons_of_mem _ tF_X12_19) h (fun v3 _ h => ?_)
        refine AW_bipush (v := 13) dX12_isFresh_22 (by decide) ?_
        refine AW_iload_n dX12_isFresh_24 rfl ?_
        refine AW_iadd dX12_isFresh_25 ?_
        refine AW_iald dX12_isFresh_26 h (fun v4 _ h => ?_)
        refine AW_iload_n dX12_isFresh_27 rfl ?_
        refine AW_ishr dX12_isFresh_28 ?_
        refine AW_iconst (v := 1) dX12_isFresh_29 (by decide) ?_
        refine AW_iand dX12_isFresh_30 ?_
        refine AW_iconst (v := 1) dX12_isFresh_31 (by decide) ?_
        refine AW_icmp_ne (tgt := 48) dX12_isFresh_32 (by decide) h (fun _ h => ?_) (fun _ h => ?_)
        · exact AW_fewer (fw_k (fw_k (fw_d (fw_k fw_n)))) (t_X12_isFresh_48 N (f_X12_isFresh_4 N n) ih _ _ _ _ _ h)
        · refine AW_aload_n dX12_isFresh_35 rfl ?_
          refine AW_iload_n dX12_isFresh_36 rfl ?_
          refine AW_callVi (y := yX12_kindOf) (cc := cX12_kindOf) (n := 2) (d := 0) (mc := 0) (ms := 0) (np := 1) (ret := (some .int)) (As := [.int x3]) (st := []) (ci := 11) dX12_isFresh_37 gT_s rfl tM_X12_183 tI_X12_kindOf selp_X12_kindOf tIni_X12 tY_X12_kindOf (by decide +kernel) ⟨by decide, by decide⟩ ⟨by decide, by decide⟩ (Nat.le_of_ble_eq_true rfl) rfl h (fun q hq => c_X12_kindOf N _ _ _ q hq) (fun q5 _ h => ?_)
          refine AW_iconst (v := 4) dX12_isFresh_40 (by decide) ?_
          refine AW_icmp_ne (tgt := 48) dX12_isFresh_41 (by decide) h (fun _ h => ?_) (fun _ h => ?_)
          · exact AW_fewer (fw_k (fw_k (fw_d (fw_k fw_n)))) (t_X12_isFresh_48 N (f_X12_isFresh_4 N n) ih _ _ _ _ _ h)
          · exact AW_fewer (fw_k (fw_k (fw_d (fw_k fw_n)))) (t_X12_isFresh_44 N (f_X12_isFresh_4 N n) ih _ _ _ _ _ h)
def f_X12_isFresh_0 (N : Nat) (A : hP) (x0 : Option Nat) (x1 : Int32) : Option (Int32 × hP) := f_X12_isFresh_4 N N A x0 x1 (0 : Int32) (0 : Int32)
set_option maxRecDepth 20000 in
set_option maxHeartbeats 4000000 in
theorem t_X12_isFresh_0 {l : Launch} {G : gS} (N : Nat) (A : hP) (x0 : Option Nat) (x1 : Int32) (res : Int32 × hP) (h : f_X12_isFresh_0 N A x0 x1 = some res) : AW l mX12_isFresh (g_rm 1 0 0) G (g_Qf G (gi res) 0 0) A 0 0 0 [some (va_rf x0), some (.int x1), none, none] [] := by
  unfold f_X12_isFresh_0 at h
  refine AW_iconst (v := 0) dX12_isFresh_0 (by decide) ?_
  refine AW_istore_n (ls' := [some (va_rf x0), some (.int x1), some (.int (0 : Int32)), none]) dX12_isFresh_1 (c1_i rfl) (by decide) rfl ?_
  refine AW_iconst (v := 0) dX12_isFresh_2 (by decide) ?_
  refine AW_istore_n (ls' := [some (va_rf x0), some (.int x1), some (.int (0 : Int32)), some (.int (0 : Int32))]) dX12_isFresh_3 (c1_i rfl) (by decide) rfl ?_
  exact (t_X12_isFresh_4 N N _ _ _ _ _ _ h)
def f_X12_isFresh (N : Nat) (A : hP) (x0 : Option Nat) (x1 : Int32) : Option (Int32 × hP) := f_X12_isFresh_0 N A x0 x1
set_option maxRecDepth 20000 in
theorem c_X12_isFresh {l : Launch} (N : Nat) (A : hP) (x0 : Option Nat) (x1 : Int32) (res : Int32 × hP) (h : f_X12_isFresh N A x0 x1 = some res) : Ct l mX12_isFresh 1 0 0 A [va_rf x0, .int x1] (gi res) := Ct.of (lv := [(0, va_rf x0), (1, .int x1)]) (ls := [some (va_rf x0), some (.int x1), none, none]) (by decide) (by simp [lv_args, g_cat_rf, cat_i, cat_l]) rfl (by simp [g_cat_rf, cat_i, cat_l]) (fun G => (t_X12_isFresh_0 N A x0 x1 res h))
abbrev mX12_shows : gM := gMk yX12_shows cX12_shows 5 (some .int)
def f_X12_shows_60 (N : Nat) (r11 : hP → Option Nat → Int32 → Int32 → Int32 → Option (Int32 × hP)) (A : hP) (x0 : Option Nat) (x3 : Int32) (x4 : Int32) (s0 : Int32) (s1 : Int32) : Option (Int32 × hP) := r11 A x0 (s0 + s1) x3 (x4 + (1 : Int32))
set_option maxRecDepth 20000 in
set_option maxHeartbeats 4000000 in
theorem t_X12_shows_60 {l : Launch} {G : gS} (N : Nat) (r11 : hP → Option Nat → Int32 → Int32 → Int32 → Option (Int32 × hP)) (hr11 : ∀ (A : hP) (x0 : Option Nat) (x2 : Int32) (x3 : Int32) (x4 : Int32) (res : Int32 × hP), r11 A x0 x2 x3 x4 = some res → AW l mX12_shows (g_rm 3 0 0) G (g_Qf G (gi res) 0 0) A 0 0 11 [some (va_rf x0), none, some (.int x2), some (.int x3), some (.int x4)] []) (A : hP) (x0 : Option Nat) (x3 : Int32) (x4 : Int32) (s0 : Int32) (s1 : Int32) (res : Int32 × hP) (h : f_X12_shows_60 N r11 A x0 x3 x4 s0 s1 = some res) : AW l mX12_shows (g_rm 3 0 0) G (g_Qf G (gi res) 0 0) A 0 0 60 [some (va_rf x0), none, none, some (.int x3), some (.int x4)] [.int s1, .int s0] := by
  unfold f_X12_shows_60 at h
  refine AW_iadd dX12_shows_60 ?_
  refine AW_istore_n (ls' := [some (va_rf x0), none, some (.int (s0 + s1)), some (.int x3), some (.int x4)]) dX12_shows_61 (c1_n rfl) (by decide) rfl ?_
  refine AW_iinc (v := 1) (ls' := [some (va_rf x0), none, some (.int (s0 + s1)), some (.int x3), some (.int (x4 + (1 : Int32)))]) dX12_shows_62 rfl (c1_i rfl) (by decide) (by decide) rfl ?_
  refine AW_goto (tgt := 11) dX12_shows_65 (by decide) ?_
  exact (hr11 _ _ _ _ _ _ h)
def f_X12_shows_68 (N : Nat) (A : hP) (x0 : Option Nat) (x2 : Int32) : Option (Int32 × hP) := (oR A x0 11 5).bind fun v1 => (oA A v1 0 (2 : Int32)).bind fun v2 => (oRm x2 v2).bind fun v3 => some (v3, A)
set_option maxRecDepth 20000 in
set_option maxHeartbeats 4000000 in
theorem t_X12_shows_68 {l : Launch} {G : gS} (N : Nat) (A : hP) (x0 : Option Nat) (x2 : Int32) (res : Int32 × hP) (h : f_X12_shows_68 N A x0 x2 = some res) : AW l mX12_shows (g_rm 3 0 0) G (g_Qf G (gi res) 0 0) A 0 0 68 [some (va_rf x0), none, some (.int x2), none, none] [] := by
  unfold f_X12_shows_68 at h
  refine AW_iload_n dX12_shows_68 rfl ?_
  refine AW_aload_n dX12_shows_69 rfl ?_
  refine AW_getR (ci := 11) (k0 := 5) (C := RX12) (T := TX12) (N := 31) dX12_shows_70 rfl (gT_u tU_X12) (by decide) (List.mem_cons_of_mem _ tF_X12_19) h (fun v1 _ h => ?_)
  refine AW_iconst (v := 2) dX12_shows_73 (by decide) ?_
  refine AW_iald dX12_shows_74 h (fun v2 _ h => ?_)
  refine AW_rem dX12_shows_75 h (fun v3 _ h => ?_)
  exact AW_iret dX12_shows_76 rfl ⟨Nat.zero_le _, Nat.zero_le _⟩ h
def f_X12_shows_11 (N : Nat) : Nat → hP → Option Nat → Int32 → Int32 → Int32 → Option (Int32 × hP)
  | 0, _, _, _, _, _ => none
  | n + 1, A, x0, x2, x3, x4 => (oI A x0 11 18).bind fun v4 => if v4 < x4 then (f_X12_shows_68 N A x0 x2) else (if x3 ≤ (0) then (f_X12_shows_68 N A x0 x2) else ((oCk A x0 11).bind fun _ => (f_X12_isFresh N A x0 x3).bind fun q5 => if q5.1 = (0) then ((oI q5.2 x0 11 19).bind fun v6 => if v6 = (1 : Int32) then ((oCk q5.2 x0 11).bind fun _ => (f_X12_loadOn N q5.2 x0 (x3 + (-1 : Int32))).bind fun q8 => f_X12_shows_60 N (f_X12_shows_11 N n) q8.2 x0 (x3 + (-1 : Int32)) x4 x2 (q8.1 >>> (x4 &&& 31))) else ((oCk q5.2 x0 11).bind fun _ => (f_X12_loadOn N q5.2 x0 (x3 + (-1 : Int32))).bind fun q7 => f_X12_shows_60 N (f_X12_shows_11 N n) q7.2 x0 (x3 + (-1 : Int32)) x4 x2 q7.1)) else (f_X12_shows_68 N q5.2 x0 x2)))
set_option maxRecDepth 20000 in
set_option maxHeartbeats 4000000 in
theorem t_X12_shows_11 {l : Launch} {G : gS} (N : Nat) : ∀ (n : Nat) (A : hP) (x0 : Option Nat) (x2 : Int32) (x3 : Int32) (x4 : Int32) (res : Int32 × hP), f_X12_shows_11 N n A x0 x2 x3 x4 = some res → AW l mX12_shows (g_rm 3 0 0) G (g_Qf G (gi res) 0 0) A 0 0 11 [some (va_rf x0), none, some (.int x2), some (.int x3), some (.int x4)] [] := by
  intro n
  induction n with
  | zero => intro A x0 x2 x3 x4 res h; cases h
  | succ n ih =>
    intro A x0 x2 x3 x4 res h
    rw [f_X12_shows_11] at h
    refine AW_iload dX12_shows_11 rfl ?_
    refine AW_aload_n dX12_shows_13 rfl ?_
    refine AW_getI (ci := 11) (k0 := 18) (C := RX12) (T := TX12) (N := 31) dX12_shows_14 rfl (gT_u tU_X12) (by decide) (List.mem_cons_of_mem _ tF_X12_174) h (fun v4 _ h => ?_)
    refine AW_icmp_gt (tgt := 68) dX12_shows_17 (by decide) h (fun _ h => ?_) (fun _ h => ?_)
    · exact AW_fewer (fw_k (fw_k (fw_k (fw_d (fw_d fw_n))))) (t_X12_shows_68 N _ _ _ _ h)
    · refine AW_iload_n dX12_shows_20 rfl ?_
      refine AW_if_le (tgt := 68) dX12_shows_21 (by decide) h (fun _ h => ?_) (fun _ h => ?_)
      · exact AW_fewer (fw_k (fw_k (fw_k (fw_d (fw_d fw_n))))) (t_X12_shows_68 N _ _ _ _ h)
      · refine AW_aload_n dX12_shows_24 rfl ?_
        refine AW_iload_n dX12_shows_25 rfl ?_
        refine AW_callVi (y := yX12_isFresh) (cc := cX12_isFresh) (n := 4) (d := 1) (mc := 0) (ms := 0) (np := 1) (ret := (some .boolean)) (As := [.int x3]) (st := []) (ci := 11) dX12_shows_26 gT_s rfl tM_X12_192 tI_X12_isFresh selp_X12_isFresh tIni_X12 tY_X12_isFresh (by decide +kernel) ⟨by decide, by decide⟩ ⟨by decide, by decide⟩ (Nat.le_of_ble_eq_true rfl) rfl h (fun q hq => c_X12_isFresh N _ _ _ q hq) (fun q5 _ h => ?_)
        refine AW_if_ne (tgt := 68) dX12_shows_29 (by decide) h (fun _ h => ?_) (fun _ h => ?_)
        · exact AW_fewer (fw_k (fw_k (fw_k (fw_d (fw_d fw_n))))) (t_X12_shows_68 N _ _ _ _ h)
        · refine AW_iinc (v := -1) (ls' := [some (va_rf x0), none, some (.int x2), some (.int (x3 + (-1 : Int32))), some (.int x4)]) dX12_shows_32 rfl (c1_i rfl) (by decide) (by decide) rfl ?_
          refine AW_iload_n dX12_shows_35 rfl ?_
          refine AW_aload_n dX12_shows_36 rfl ?_
          refine AW_getI (ci := 11) (k0 := 19) (C := RX12) (T := TX12) (N := 31) dX12_shows_37 rfl (gT_u tU_X12) (by decide) (List.mem_cons_of_mem _ tF_X12_177) h (fun v6 _ h => ?_)
          refine AW_iconst (v := 1) dX12_shows_40 (by decide) ?_
          refine AW_icmp_ne (tgt := 55) dX12_shows_41 (by decide) h (fun _ h => ?_) (fun _ h => ?_)
          · refine AW_aload_n dX12_shows_55 rfl ?_
            refine AW_iload_n dX12_shows_56 rfl ?_
            refine AW_callVi (y := yX12_loadOn) (cc := cX12_loadOn) (n := 4) (d := 2) (mc := 0) (ms := 0) (np := 1) (ret := (some .int)) (As := [.int (x3 + (-1 : Int32))]) (st := [.int x2]) (ci := 11) dX12_shows_57 gT_s rfl tM_X12_189 tI_X12_loadOn selp_X12_loadOn tIni_X12 tY_X12_loadOn (by decide +kernel) ⟨by decide, by decide⟩ ⟨by decide, by decide⟩ (Nat.le_of_ble_eq_true rfl) rfl h (fun q hq => c_X12_loadOn N _ _ _ q hq) (fun q7 _ h => ?_)
            exact AW_fewer (fw_k (fw_k (fw_d (fw_k (fw_k fw_n))))) (t_X12_shows_60 N (f_X12_shows_11 N n) ih _ _ _ _ _ _ _ h)
          · refine AW_aload_n dX12_shows_44 rfl ?_
            refine AW_iload_n dX12_shows_45 rfl ?_
            refine AW_callVi (y := yX12_loadOn) (cc := cX12_loadOn) (n := 4) (d := 2) (mc := 0) (ms := 0) (np := 1) (ret := (some .int)) (As := [.int (x3 + (-1 : Int32))]) (st := [.int x2]) (ci := 11) dX12_shows_46 gT_s rfl tM_X12_189 tI_X12_loadOn selp_X12_loadOn tIni_X12 tY_X12_loadOn (by decide +kernel) ⟨by decide, by decide⟩ ⟨by decide, by decide⟩ (Nat.le_of_ble_eq_true rfl) rfl h (fun q hq => c_X12_loadOn N _ _ _ q hq) (fun q8 _ h => ?_)
            refine AW_iload dX12_shows_49 rfl ?_
            refine AW_ishr dX12_shows_51 ?_
            refine AW_goto (tgt := 60) dX12_shows_52 (by decide) ?_
            exact AW_fewer (fw_k (fw_k (fw_d (fw_k (fw_k fw_n))))) (t_X12_shows_60 N (f_X12_shows_11 N n) ih _ _ _ _ _ _ _ h)
def f_X12_shows_0 (N : Nat) (A : hP) (x0 : Option Nat) (x1 : Int32) : Option (Int32 × hP) := (oCk A x0 11).bind fun _ => (f_X12_loadOn N A x0 x1).bind fun q9 => f_X12_shows_11 N N q9.2 x0 q9.1 x1 (1 : Int32)
set_option maxRecDepth 20000 in
set_option maxHeartbeats 4000000 in
theorem t_X12_shows_0 {l : Launch} {G : gS} (N : Nat) (A : hP) (x0 : Option Nat) (x1 : Int32) (res : Int32 × hP) (h : f_X12_shows_0 N A x0 x1 = some res) : AW l mX12_shows (g_rm 3 0 0) G (g_Qf G (gi res) 0 0) A 0 0 0 [some (va_rf x0), some (.int x1), none, none, none] [] := by
  unfold f_X12_shows_0 at h
  refine AW_aload_n dX12_shows_0 rfl ?_
  refine AW_iload_n dX12_shows_1 rfl ?_
  refine AW_callVi (y := yX12_loadOn) (cc := cX12_loadOn) (n := 4) (d := 2) (mc := 0) (ms := 0) (np := 1) (ret := (some .int)) (As := [.int x1]) (st := []) (ci := 11) dX12_shows_2 gT_s rfl tM_X12_189 tI_X12_loadOn selp_X12_loadOn tIni_X12 tY_X12_loadOn (by decide +kernel) ⟨by decide, by decide⟩ ⟨by decide, by decide⟩ (Nat.le_of_ble_eq_true rfl) rfl h (fun q hq => c_X12_loadOn N _ _ _ q hq) (fun q9 _ h => ?_)
  refine AW_istore_n (ls' := [some (va_rf x0), some (.int x1), some (.int q9.1), none, none]) dX12_shows_5 (c1_i rfl) (by decide) rfl ?_
  refine AW_iload_n dX12_shows_6 rfl ?_
  refine AW_istore_n (ls' := [some (va_rf x0), some (.int x1), some (.int q9.1), some (.int x1), none]) dX12_shows_7 (c1_i rfl) (by decide) rfl ?_
  refine AW_iconst (v := 1) dX12_shows_8 (by decide) ?_
  refine AW_istore (ls' := [some (va_rf x0), some (.int x1), some (.int q9.1), some (.int x1), some (.int (1 : Int32))]) dX12_shows_9 (c1_i rfl) (by decide) rfl ?_
  exact AW_fewer (fw_k (fw_d (fw_k (fw_k (fw_k fw_n))))) (t_X12_shows_11 N N _ _ _ _ _ _ h)
def f_X12_shows (N : Nat) (A : hP) (x0 : Option Nat) (x1 : Int32) : Option (Int32 × hP) := f_X12_shows_0 N A x0 x1
set_option maxRecDepth 20000 in
theorem c_X12_shows {l : Launch} (N : Nat) (A : hP) (x0 : Option Nat) (x1 : Int32) (res : Int32 × hP) (h : f_X12_shows N A x0 x1 = some res) : Ct l mX12_shows 3 0 0 A [va_rf x0, .int x1] (gi res) := Ct.of (lv := [(0, va_rf x0), (1, .int x1)]) (ls := [some (va_rf x0), some (.int x1), none, none, none]) (by decide) (by simp [lv_args, g_cat_rf, cat_i, cat_l]) rfl (by simp [g_cat_rf, cat_i, cat_l]) (fun G => (t_X12_shows_0 N A x0 x1 res h))
abbrev mX12_day : gM := gMk yX12_day cX12_day 2 (some .int)
def f_X12_day_0 (N : Nat) (A : hP) (x0 : Option Nat) (x1 : Int32) : Option (Int32 × hP) := (oP A x0 11 0 (.int (0 : Int32))).bind fun A1 => (oCk A1 x0 11).bind fun _ => (f_X12_isThere N A1 x0).bind fun q2 => if q2.1 = (0) then (some ((-1000002 : Int32), q2.2)) else ((oCk q2.2 x0 11).bind fun _ => (f_X12_isSet N q2.2 x0 x1).bind fun q3 => if q3.1 = (0) then (some ((-1000001 : Int32), q3.2)) else ((oR q3.2 x0 11 5).bind fun v4 => (oA q3.2 v4 0 (4 : Int32)).bind fun v5 => if v5 = (24 : Int32) then (some ((-1000003 : Int32), q3.2)) else ((oR q3.2 x0 11 5).bind fun v6 => (oR q3.2 x0 11 5).bind fun v7 => (oA q3.2 v7 0 (4 : Int32)).bind fun v8 => (oS q3.2 v6 0 ((13 : Int32) + v8) x1).bind fun A9 => (oR A9 x0 11 5).bind fun v10 => (oA A9 v10 0 (4 : Int32)).bind fun v11 => (oS A9 v10 0 (4 : Int32) (v11 + (1 : Int32))).bind fun A12 => (oCk A12 x0 11).bind fun _ => (f_X12_layTruly N A12 x0).bind fun q13 => (oR q13.2 x0 11 5).bind fun v14 => (oA q13.2 v14 0 (4 : Int32)).bind fun v15 => (oCk q13.2 x0 11).bind fun _ => (f_X12_shows N q13.2 x0 (v15 - (1 : Int32))).bind fun q16 => some (q16.1, q16.2))))
set_option maxRecDepth 20000 in
set_option maxHeartbeats 4000000 in
theorem t_X12_day_0 {l : Launch} {G : gS} (N : Nat) (A : hP) (x0 : Option Nat) (x1 : Int32) (res : Int32 × hP) (h : f_X12_day_0 N A x0 x1 = some res) : AW l mX12_day (g_rm 4 0 0) G (g_Qf G (gi res) 0 0) A 0 0 0 [some (va_rf x0), some (.int x1)] [] := by
  unfold f_X12_day_0 at h
  refine AW_aload_n dX12_day_0 rfl ?_
  refine AW_iconst (v := 0) dX12_day_1 (by decide) ?_
  refine AW_put (ci := 11) (k0 := 0) (C := RX12) (T := TX12) (N := 31) (ty0 := tyX12) dX12_day_2 rfl (gT_u tU_X12) tyX12_ok nmX12 (by decide) (List.mem_cons_of_mem _ tF_X12_47) (Or.inl rfl) rfl rfl h (fun A1 _ h => ?_)
  refine AW_aload_n dX12_day_5 rfl ?_
  refine AW_callVi (y := yX12_isThere) (cc := cX12_isThere) (n := 1) (d := 0) (mc := 0) (ms := 0) (np := 0) (ret := (some .boolean)) (As := []) (st := []) (ci := 11) dX12_day_6 gT_s rfl tM_X12_195 tI_X12_isThere selp_X12_isThere tIni_X12 tY_X12_isThere (by decide +kernel) ⟨by decide, by decide⟩ ⟨by decide, by decide⟩ (Nat.le_of_ble_eq_true rfl) rfl h (fun q hq => c_X12_isThere N _ _ q hq) (fun q2 _ h => ?_)
  refine AW_if_ne (tgt := 15) dX12_day_9 (by decide) h (fun _ h => ?_) (fun _ h => ?_)
  · refine AW_aload_n dX12_day_15 rfl ?_
    refine AW_iload_n dX12_day_16 rfl ?_
    refine AW_callVi (y := yX12_isSet) (cc := cX12_isSet) (n := 2) (d := 1) (mc := 0) (ms := 0) (np := 1) (ret := (some .boolean)) (As := [.int x1]) (st := []) (ci := 11) dX12_day_17 gT_s rfl tM_X12_200 tI_X12_isSet selp_X12_isSet tIni_X12 tY_X12_isSet (by decide +kernel) ⟨by decide, by decide⟩ ⟨by decide, by decide⟩ (Nat.le_of_ble_eq_true rfl) rfl h (fun q hq => c_X12_isSet N _ _ _ q hq) (fun q3 _ h => ?_)
    refine AW_if_ne (tgt := 26) dX12_day_20 (by decide) h (fun _ h => ?_) (fun _ h => ?_)
    · refine AW_aload_n dX12_day_26 rfl ?_
      refine AW_getR (ci := 11) (k0 := 5) (C := RX12) (T := TX12) (N := 31) dX12_day_27 rfl (gT_u tU_X12) (by decide) (List.mem_cons_of_mem _ tF_X12_19) h (fun v4 _ h => ?_)
      refine AW_iconst (v := 4) dX12_day_30 (by decide) ?_
      refine AW_iald dX12_day_31 h (fun v5 _ h => ?_)
      refine AW_bipush (v := 24) dX12_day_32 (by decide) ?_
      refine AW_icmp_ne (tgt := 40) dX12_day_34 (by decide) h (fun _ h => ?_) (fun _ h => ?_)
      · refine AW_aload_n dX12_day_40 rfl ?_
        refine AW_getR (ci := 11) (k0 := 5) (C := RX12) (T := TX12) (N := 31) dX12_day_41 rfl (gT_u tU_X12) (by decide) (List.mem_cons_of_mem _ tF_X12_19) h (fun v6 _ h => ?_)
        refine AW_bipush (v := 13) dX12_day_44 (by decide) ?_
        refine AW_aload_n dX12_day_46 rfl ?_
        refine AW_getR (ci := 11) (k0 := 5) (C := RX12) (T := TX12) (N := 31) dX12_day_47 rfl (gT_u tU_X12) (by decide) (List.mem_cons_of_mem _ tF_X12_19) h (fun v7 _ h => ?_)
        refine AW_iconst (v := 4) dX12_day_50 (by decide) ?_
        refine AW_iald dX12_day_51 h (fun v8 _ h => ?_)
        refine AW_iadd dX12_day_52 ?_
        refine AW_iload_n dX12_day_53 rfl ?_
        refine AW_iast dX12_day_54 h (fun A9 _ h => ?_)
        refine AW_aload_n dX12_day_55 rfl ?_
        refine AW_getR (ci := 11) (k0 := 5) (C := RX12) (T := TX12) (N := 31) dX12_day_56 rfl (gT_u tU_X12) (by decide) (List.mem_cons_of_mem _ tF_X12_19) h (fun v10 _ h => ?_)
        refine AW_iconst (v := 4) dX12_day_59 (by decide) ?_
        refine AW_dup2 dX12_day_60 rfl (g_cat_rf _) ?_
        refine AW_iald dX12_day_61 h (fun v11 _ h => ?_)
        refine AW_iconst (v := 1) dX12_day_62 (by decide) ?_
        refine AW_iadd dX12_day_63 ?_
        refine AW_iast dX12_day_64 h (fun A12 _ h => ?_)
        refine AW_aload_n dX12_day_65 rfl ?_
        refine AW_callVu (y := yX12_layTruly) (cc := cX12_layTruly) (n := 2) (d := 0) (mc := 0) (ms := 0) (np := 0) (ret := none) (As := []) (st := []) (ci := 11) dX12_day_66 gT_s rfl tM_X12_203 tI_X12_layTruly selp_X12_layTruly tIni_X12 tY_X12_layTruly (by decide +kernel) ⟨by decide, by decide⟩ ⟨by decide, by decide⟩ (Nat.le_of_ble_eq_true rfl) rfl h (fun q hq => c_X12_layTruly N _ _ q hq) (fun q13 _ h => ?_)
        refine AW_aload_n dX12_day_69 rfl ?_
        refine AW_aload_n dX12_day_70 rfl ?_
        refine AW_getR (ci := 11) (k0 := 5) (C := RX12) (T := TX12) (N := 31) dX12_day_71 rfl (gT_u tU_X12) (by decide) (List.mem_cons_of_mem _ tF_X12_19) h (fun v14 _ h => ?_)
        refine AW_iconst (v := 4) dX12_day_74 (by decide) ?_
        refine AW_iald dX12_day_75 h (fun v15 _ h => ?_)
        refine AW_iconst (v := 1) dX12_day_76 (by decide) ?_
        refine AW_isub dX12_day_77 ?_
        refine AW_callVi (y := yX12_shows) (cc := cX12_shows) (n := 5) (d := 3) (mc := 0) (ms := 0) (np := 1) (ret := (some .int)) (As := [.int (v15 - (1 : Int32))]) (st := []) (ci := 11) dX12_day_78 gT_s rfl tM_X12_206 tI_X12_shows selp_X12_shows tIni_X12 tY_X12_shows (by decide +kernel) ⟨by decide, by decide⟩ ⟨by decide, by decide⟩ (Nat.le_of_ble_eq_true rfl) rfl h (fun q hq => c_X12_shows N _ _ _ q hq) (fun q16 _ h => ?_)
        exact AW_iret dX12_day_81 rfl ⟨Nat.zero_le _, Nat.zero_le _⟩ h
      · refine AW_ldc (v := -1000003) dX12_day_37 (List.mem_cons_of_mem _ tK_X12_77) ?_
        exact AW_iret dX12_day_39 rfl ⟨Nat.zero_le _, Nat.zero_le _⟩ h
    · refine AW_ldc (v := -1000001) dX12_day_23 (List.mem_cons_of_mem _ tK_X12_67) ?_
      exact AW_iret dX12_day_25 rfl ⟨Nat.zero_le _, Nat.zero_le _⟩ h
  · refine AW_ldc (v := -1000002) dX12_day_12 (List.mem_cons_of_mem _ tK_X12_199) ?_
    exact AW_iret dX12_day_14 rfl ⟨Nat.zero_le _, Nat.zero_le _⟩ h
def f_X12_day (N : Nat) (A : hP) (x0 : Option Nat) (x1 : Int32) : Option (Int32 × hP) := f_X12_day_0 N A x0 x1
set_option maxRecDepth 20000 in
theorem c_X12_day {l : Launch} (N : Nat) (A : hP) (x0 : Option Nat) (x1 : Int32) (res : Int32 × hP) (h : f_X12_day N A x0 x1 = some res) : Ct l mX12_day 4 0 0 A [va_rf x0, .int x1] (gi res) := Ct.of (lv := [(0, va_rf x0), (1, .int x1)]) (ls := [some (va_rf x0), some (.int x1)]) (by decide) (by simp [lv_args, g_cat_rf, cat_i, cat_l]) rfl (by simp [g_cat_rf, cat_i, cat_l]) (fun G => (t_X12_day_0 N A x0 x1 res h))
abbrev mX12_undo : gM := gMk yX12_undo cX12_undo 1 (some .int)
def f_X12_undo_0 (N : Nat) (A : hP) (x0 : Option Nat) : Option (Int32 × hP) := (oP A x0 11 0 (.int (0 : Int32))).bind fun A1 => (oR A1 x0 11 5).bind fun v2 => (oA A1 v2 0 (4 : Int32)).bind fun v3 => if v3 = (0) then (some ((-1000002 : Int32), A1)) else ((oR A1 x0 11 5).bind fun v4 => (oA A1 v4 0 (4 : Int32)).bind fun v5 => (oS A1 v4 0 (4 : Int32) (v5 - (1 : Int32))).bind fun A6 => (oR A6 x0 11 5).bind fun v7 => (oA A6 v7 0 (4 : Int32)).bind fun v8 => some (v8, A6))
set_option maxRecDepth 20000 in
set_option maxHeartbeats 4000000 in
theorem t_X12_undo_0 {l : Launch} {G : gS} (N : Nat) (A : hP) (x0 : Option Nat) (res : Int32 × hP) (h : f_X12_undo_0 N A x0 = some res) : AW l mX12_undo (g_rm 0 0 0) G (g_Qf G (gi res) 0 0) A 0 0 0 [some (va_rf x0)] [] := by
  unfold f_X12_undo_0 at h
  refine AW_aload_n dX12_undo_0 rfl ?_
  refine AW_iconst (v := 0) dX12_undo_1 (by decide) ?_
  refine AW_put (ci := 11) (k0 := 0) (C := RX12) (T := TX12) (N := 31) (ty0 := tyX12) dX12_undo_2 rfl (gT_u tU_X12) tyX12_ok nmX12 (by decide) (List.mem_cons_of_mem _ tF_X12_47) (Or.inl rfl) rfl rfl h (fun A1 _ h => ?_)
  refine AW_aload_n dX12_undo_5 rfl ?_
  refine AW_getR (ci := 11) (k0 := 5) (C := RX12) (T := TX12) (N := 31) dX12_undo_6 rfl (gT_u tU_X12) (by decide) (List.mem_cons_of_mem _ tF_X12_19) h (fun v2 _ h => ?_)
  refine AW_iconst (v := 4) dX12_undo_9 (by decide) ?_
  refine AW_iald dX12_undo_10 h (fun v3 _ h => ?_)
  refine AW_if_ne (tgt := 17) dX12_undo_11 (by decide) h (fun _ h => ?_) (fun _ h => ?_)
  · refine AW_aload_n dX12_undo_17 rfl ?_
    refine AW_getR (ci := 11) (k0 := 5) (C := RX12) (T := TX12) (N := 31) dX12_undo_18 rfl (gT_u tU_X12) (by decide) (List.mem_cons_of_mem _ tF_X12_19) h (fun v4 _ h => ?_)
    refine AW_iconst (v := 4) dX12_undo_21 (by decide) ?_
    refine AW_dup2 dX12_undo_22 rfl (g_cat_rf _) ?_
    refine AW_iald dX12_undo_23 h (fun v5 _ h => ?_)
    refine AW_iconst (v := 1) dX12_undo_24 (by decide) ?_
    refine AW_isub dX12_undo_25 ?_
    refine AW_iast dX12_undo_26 h (fun A6 _ h => ?_)
    refine AW_aload_n dX12_undo_27 rfl ?_
    refine AW_getR (ci := 11) (k0 := 5) (C := RX12) (T := TX12) (N := 31) dX12_undo_28 rfl (gT_u tU_X12) (by decide) (List.mem_cons_of_mem _ tF_X12_19) h (fun v7 _ h => ?_)
    refine AW_iconst (v := 4) dX12_undo_31 (by decide) ?_
    refine AW_iald dX12_undo_32 h (fun v8 _ h => ?_)
    exact AW_iret dX12_undo_33 rfl ⟨Nat.zero_le _, Nat.zero_le _⟩ h
  · refine AW_ldc (v := -1000002) dX12_undo_14 (List.mem_cons_of_mem _ tK_X12_199) ?_
    exact AW_iret dX12_undo_16 rfl ⟨Nat.zero_le _, Nat.zero_le _⟩ h
def f_X12_undo (N : Nat) (A : hP) (x0 : Option Nat) : Option (Int32 × hP) := f_X12_undo_0 N A x0
set_option maxRecDepth 20000 in
theorem c_X12_undo {l : Launch} (N : Nat) (A : hP) (x0 : Option Nat) (res : Int32 × hP) (h : f_X12_undo N A x0 = some res) : Ct l mX12_undo 0 0 0 A [va_rf x0] (gi res) := Ct.of (lv := [(0, va_rf x0)]) (ls := [some (va_rf x0)]) (by decide) (by simp [lv_args, g_cat_rf, cat_i, cat_l]) rfl (by simp [g_cat_rf, cat_i, cat_l]) (fun G => (t_X12_undo_0 N A x0 res h))
abbrev mX12_isDay : gM := gMk yX12_isDay cX12_isDay 2 (some .boolean)
def f_X12_isDay_0 (N : Nat) (A : hP) (x0 : Option Nat) (x1 : Int32) : Option (Int32 × hP) := (oR A x0 11 5).bind fun v1 => (oA A v1 0 (4 : Int32)).bind fun v2 => (f_X12_in N A x1.toInt64 (0 : Int64) ((v2 - (1 : Int32)).toInt64)).bind fun q3 => if q3.1 = 0 ∨ q3.1 = 1 then some (q3.1, q3.2) else none
set_option maxRecDepth 20000 in
set_option maxHeartbeats 4000000 in
theorem t_X12_isDay_0 {l : Launch} {G : gS} (N : Nat) (A : hP) (x0 : Option Nat) (x1 : Int32) (res : Int32 × hP) (h : f_X12_isDay_0 N A x0 x1 = some res) : AW l mX12_isDay (g_rm 1 0 0) G (g_Qf G (gi res) 0 0) A 0 0 0 [some (va_rf x0), some (.int x1)] [] := by
  unfold f_X12_isDay_0 at h
  refine AW_iload_n dX12_isDay_0 rfl ?_
  refine AW_i2l dX12_isDay_1 ?_
  refine AW_lconst (v := 0) dX12_isDay_2 (by decide) ?_
  refine AW_aload_n dX12_isDay_3 rfl ?_
  refine AW_getR (ci := 11) (k0 := 5) (C := RX12) (T := TX12) (N := 31) dX12_isDay_4 rfl (gT_u tU_X12) (by decide) (List.mem_cons_of_mem _ tF_X12_19) h (fun v1 _ h => ?_)
  refine AW_iconst (v := 4) dX12_isDay_7 (by decide) ?_
  refine AW_iald dX12_isDay_8 h (fun v2 _ h => ?_)
  refine AW_iconst (v := 1) dX12_isDay_9 (by decide) ?_
  refine AW_isub dX12_isDay_10 ?_
  refine AW_i2l dX12_isDay_11 ?_
  refine AW_callSi (y := yX12_in) (cc := cX12_in) (n := 6) (d := 0) (mc := 0) (ms := 0) (np := 3) (ret := (some .boolean)) (As := [.long x1.toInt64, .long (0 : Int64), .long ((v2 - (1 : Int32)).toInt64)]) (st := []) dX12_isDay_12 gT_s tM_X12_57 tS_X12_in tIni_X12 tY_X12_in (by decide +kernel) ⟨by decide, by decide⟩ ⟨by decide, by decide⟩ (Nat.le_of_ble_eq_true rfl) rfl h (fun q hq => c_X12_in N _ _ _ _ q hq) (fun q3 _ h => ?_)
  exact AW_zret dX12_isDay_15 rfl ⟨Nat.zero_le _, Nat.zero_le _⟩ h
def f_X12_isDay (N : Nat) (A : hP) (x0 : Option Nat) (x1 : Int32) : Option (Int32 × hP) := f_X12_isDay_0 N A x0 x1
set_option maxRecDepth 20000 in
theorem c_X12_isDay {l : Launch} (N : Nat) (A : hP) (x0 : Option Nat) (x1 : Int32) (res : Int32 × hP) (h : f_X12_isDay N A x0 x1 = some res) : Ct l mX12_isDay 1 0 0 A [va_rf x0, .int x1] (gi res) := Ct.of (lv := [(0, va_rf x0), (1, .int x1)]) (ls := [some (va_rf x0), some (.int x1)]) (by decide) (by simp [lv_args, g_cat_rf, cat_i, cat_l]) rfl (by simp [g_cat_rf, cat_i, cat_l]) (fun G => (t_X12_isDay_0 N A x0 x1 res h))
abbrev mX12_shown : gM := gMk yX12_shown cX12_shown 3 (some .int)
def f_X12_shown_25 (N : Nat) (A : hP) : Option (Int32 × hP) := some ((-1000001 : Int32), A)
set_option maxRecDepth 20000 in
set_option maxHeartbeats 4000000 in
theorem t_X12_shown_25 {l : Launch} {G : gS} (N : Nat) (A : hP) (res : Int32 × hP) (h : f_X12_shown_25 N A  = some res) : AW l mX12_shown (g_rm 4 0 0) G (g_Qf G (gi res) 0 0) A 0 0 25 [none, none, none] [] := by
  unfold f_X12_shown_25 at h
  refine AW_ldc (v := -1000001) dX12_shown_25 (List.mem_cons_of_mem _ tK_X12_67) ?_
  exact AW_iret dX12_shown_27 rfl ⟨Nat.zero_le _, Nat.zero_le _⟩ h
def f_X12_shown_87 (N : Nat) (A : hP) (s0 : Int32) : Option (Int32 × hP) := some (s0, A)
set_option maxRecDepth 20000 in
set_option maxHeartbeats 4000000 in
theorem t_X12_shown_87 {l : Launch} {G : gS} (N : Nat) (A : hP) (s0 : Int32) (res : Int32 × hP) (h : f_X12_shown_87 N A s0 = some res) : AW l mX12_shown (g_rm 4 0 0) G (g_Qf G (gi res) 0 0) A 0 0 87 [none, none, none] [.int s0] := by
  unfold f_X12_shown_87 at h
  exact AW_iret dX12_shown_87 rfl ⟨Nat.zero_le _, Nat.zero_le _⟩ h
def f_X12_shown_0 (N : Nat) (A : hP) (x0 : Option Nat) (x1 : Int32) (x2 : Int32) : Option (Int32 × hP) := (oP A x0 11 0 (.int (0 : Int32))).bind fun A1 => (oCk A1 x0 11).bind fun _ => (f_X12_isDay N A1 x0 x1).bind fun q2 => if q2.1 = (0) then (f_X12_shown_25 N q2.2) else ((f_X12_in N q2.2 x2.toInt64 (0 : Int64) (3 : Int64)).bind fun q3 => if q3.1 = (0) then (f_X12_shown_25 N q3.2) else ((oCk q3.2 x0 11).bind fun _ => (f_X12_layTruly N q3.2 x0).bind fun q4 => if x2 = (0) then ((oR q4.2 x0 11 5).bind fun v8 => (oA q4.2 v8 0 ((13 : Int32) + x1)).bind fun v9 => f_X12_shown_87 N q4.2 v9) else (if x2 = (1 : Int32) then ((oCk q4.2 x0 11).bind fun _ => (f_X12_loadOn N q4.2 x0 x1).bind fun q7 => f_X12_shown_87 N q7.2 q7.1) else (if x2 = (2 : Int32) then ((oCk q4.2 x0 11).bind fun _ => (f_X12_shows N q4.2 x0 x1).bind fun q6 => f_X12_shown_87 N q6.2 q6.1) else ((oCk q4.2 x0 11).bind fun _ => (f_X12_isFresh N q4.2 x0 x1).bind fun q5 => if q5.1 = (0) then (f_X12_shown_87 N q5.2 (0 : Int32)) else (f_X12_shown_87 N q5.2 (1 : Int32)))))))
set_option maxRecDepth 20000 in
set_option maxHeartbeats 4000000 in
theorem t_X12_shown_0 {l : Launch} {G : gS} (N : Nat) (A : hP) (x0 : Option Nat) (x1 : Int32) (x2 : Int32) (res : Int32 × hP) (h : f_X12_shown_0 N A x0 x1 x2 = some res) : AW l mX12_shown (g_rm 4 0 0) G (g_Qf G (gi res) 0 0) A 0 0 0 [some (va_rf x0), some (.int x1), some (.int x2)] [] := by
  unfold f_X12_shown_0 at h
  refine AW_aload_n dX12_shown_0 rfl ?_
  refine AW_iconst (v := 0) dX12_shown_1 (by decide) ?_
  refine AW_put (ci := 11) (k0 := 0) (C := RX12) (T := TX12) (N := 31) (ty0 := tyX12) dX12_shown_2 rfl (gT_u tU_X12) tyX12_ok nmX12 (by decide) (List.mem_cons_of_mem _ tF_X12_47) (Or.inl rfl) rfl rfl h (fun A1 _ h => ?_)
  refine AW_aload_n dX12_shown_5 rfl ?_
  refine AW_iload_n dX12_shown_6 rfl ?_
  refine AW_callVi (y := yX12_isDay) (cc := cX12_isDay) (n := 2) (d := 1) (mc := 0) (ms := 0) (np := 1) (ret := (some .boolean)) (As := [.int x1]) (st := []) (ci := 11) dX12_shown_7 gT_s rfl tM_X12_209 tI_X12_isDay selp_X12_isDay tIni_X12 tY_X12_isDay (by decide +kernel) ⟨by decide, by decide⟩ ⟨by decide, by decide⟩ (Nat.le_of_ble_eq_true rfl) rfl h (fun q hq => c_X12_isDay N _ _ _ q hq) (fun q2 _ h => ?_)
  refine AW_if_eq (tgt := 25) dX12_shown_10 (by decide) h (fun _ h => ?_) (fun _ h => ?_)
  · exact AW_fewer (fw_d (fw_d (fw_d fw_n))) (t_X12_shown_25 N _ _ h)
  · refine AW_iload_n dX12_shown_13 rfl ?_
    refine AW_i2l dX12_shown_14 ?_
    refine AW_lconst (v := 0) dX12_shown_15 (by decide) ?_
    refine AW_ldc2 (v := 3) dX12_shown_16 (List.mem_cons_of_mem _ tL_X12_212) ?_
    refine AW_callSi (y := yX12_in) (cc := cX12_in) (n := 6) (d := 0) (mc := 0) (ms := 0) (np := 3) (ret := (some .boolean)) (As := [.long x2.toInt64, .long (0 : Int64), .long (3 : Int64)]) (st := []) dX12_shown_19 gT_s tM_X12_57 tS_X12_in tIni_X12 tY_X12_in (by decide +kernel) ⟨by decide, by decide⟩ ⟨by decide, by decide⟩ (Nat.le_of_ble_eq_true rfl) rfl h (fun q hq => c_X12_in N _ _ _ _ q hq) (fun q3 _ h => ?_)
    refine AW_if_ne (tgt := 28) dX12_shown_22 (by decide) h (fun _ h => ?_) (fun _ h => ?_)
    · refine AW_aload_n dX12_shown_28 rfl ?_
      refine AW_callVu (y := yX12_layTruly) (cc := cX12_layTruly) (n := 2) (d := 0) (mc := 0) (ms := 0) (np := 0) (ret := none) (As := []) (st := []) (ci := 11) dX12_shown_29 gT_s rfl tM_X12_203 tI_X12_layTruly selp_X12_layTruly tIni_X12 tY_X12_layTruly (by decide +kernel) ⟨by decide, by decide⟩ ⟨by decide, by decide⟩ (Nat.le_of_ble_eq_true rfl) rfl h (fun q hq => c_X12_layTruly N _ _ q hq) (fun q4 _ h => ?_)
      refine AW_iload_n dX12_shown_32 rfl ?_
      refine AW_if_ne (tgt := 48) dX12_shown_33 (by decide) h (fun _ h => ?_) (fun _ h => ?_)
      · refine AW_iload_n dX12_shown_48 rfl ?_
        refine AW_iconst (v := 1) dX12_shown_49 (by decide) ?_
        refine AW_icmp_ne (tgt := 61) dX12_shown_50 (by decide) h (fun _ h => ?_) (fun _ h => ?_)
        · refine AW_iload_n dX12_shown_61 rfl ?_
          refine AW_iconst (v := 2) dX12_shown_62 (by decide) ?_
          refine AW_icmp_ne (tgt := 74) dX12_shown_63 (by decide) h (fun _ h => ?_) (fun _ h => ?_)
          · refine AW_aload_n dX12_shown_74 rfl ?_
            refine AW_iload_n dX12_shown_75 rfl ?_
            refine AW_callVi (y := yX12_isFresh) (cc := cX12_isFresh) (n := 4) (d := 1) (mc := 0) (ms := 0) (np := 1) (ret := (some .boolean)) (As := [.int x1]) (st := []) (ci := 11) dX12_shown_76 gT_s rfl tM_X12_192 tI_X12_isFresh selp_X12_isFresh tIni_X12 tY_X12_isFresh (by decide +kernel) ⟨by decide, by decide⟩ ⟨by decide, by decide⟩ (Nat.le_of_ble_eq_true rfl) rfl h (fun q hq => c_X12_isFresh N _ _ _ q hq) (fun q5 _ h => ?_)
            refine AW_if_eq (tgt := 86) dX12_shown_79 (by decide) h (fun _ h => ?_) (fun _ h => ?_)
            · refine AW_iconst (v := 0) dX12_shown_86 (by decide) ?_
              exact AW_fewer (fw_d (fw_d (fw_d fw_n))) (t_X12_shown_87 N _ _ _ h)
            · refine AW_iconst (v := 1) dX12_shown_82 (by decide) ?_
              refine AW_goto (tgt := 87) dX12_shown_83 (by decide) ?_
              exact AW_fewer (fw_d (fw_d (fw_d fw_n))) (t_X12_shown_87 N _ _ _ h)
          · refine AW_aload_n dX12_shown_66 rfl ?_
            refine AW_iload_n dX12_shown_67 rfl ?_
            refine AW_callVi (y := yX12_shows) (cc := cX12_shows) (n := 5) (d := 3) (mc := 0) (ms := 0) (np := 1) (ret := (some .int)) (As := [.int x1]) (st := []) (ci := 11) dX12_shown_68 gT_s rfl tM_X12_206 tI_X12_shows selp_X12_shows tIni_X12 tY_X12_shows (by decide +kernel) ⟨by decide, by decide⟩ ⟨by decide, by decide⟩ (Nat.le_of_ble_eq_true rfl) rfl h (fun q hq => c_X12_shows N _ _ _ q hq) (fun q6 _ h => ?_)
            refine AW_goto (tgt := 87) dX12_shown_71 (by decide) ?_
            exact AW_fewer (fw_d (fw_d (fw_d fw_n))) (t_X12_shown_87 N _ _ _ h)
        · refine AW_aload_n dX12_shown_53 rfl ?_
          refine AW_iload_n dX12_shown_54 rfl ?_
          refine AW_callVi (y := yX12_loadOn) (cc := cX12_loadOn) (n := 4) (d := 2) (mc := 0) (ms := 0) (np := 1) (ret := (some .int)) (As := [.int x1]) (st := []) (ci := 11) dX12_shown_55 gT_s rfl tM_X12_189 tI_X12_loadOn selp_X12_loadOn tIni_X12 tY_X12_loadOn (by decide +kernel) ⟨by decide, by decide⟩ ⟨by decide, by decide⟩ (Nat.le_of_ble_eq_true rfl) rfl h (fun q hq => c_X12_loadOn N _ _ _ q hq) (fun q7 _ h => ?_)
          refine AW_goto (tgt := 87) dX12_shown_58 (by decide) ?_
          exact AW_fewer (fw_d (fw_d (fw_d fw_n))) (t_X12_shown_87 N _ _ _ h)
      · refine AW_aload_n dX12_shown_36 rfl ?_
        refine AW_getR (ci := 11) (k0 := 5) (C := RX12) (T := TX12) (N := 31) dX12_shown_37 rfl (gT_u tU_X12) (by decide) (List.mem_cons_of_mem _ tF_X12_19) h (fun v8 _ h => ?_)
        refine AW_bipush (v := 13) dX12_shown_40 (by decide) ?_
        refine AW_iload_n dX12_shown_42 rfl ?_
        refine AW_iadd dX12_shown_43 ?_
        refine AW_iald dX12_shown_44 h (fun v9 _ h => ?_)
        refine AW_goto (tgt := 87) dX12_shown_45 (by decide) ?_
        exact AW_fewer (fw_d (fw_d (fw_d fw_n))) (t_X12_shown_87 N _ _ _ h)
    · exact AW_fewer (fw_d (fw_d (fw_d fw_n))) (t_X12_shown_25 N _ _ h)
def f_X12_shown (N : Nat) (A : hP) (x0 : Option Nat) (x1 : Int32) (x2 : Int32) : Option (Int32 × hP) := f_X12_shown_0 N A x0 x1 x2
set_option maxRecDepth 20000 in
theorem c_X12_shown {l : Launch} (N : Nat) (A : hP) (x0 : Option Nat) (x1 : Int32) (x2 : Int32) (res : Int32 × hP) (h : f_X12_shown N A x0 x1 x2 = some res) : Ct l mX12_shown 4 0 0 A [va_rf x0, .int x1, .int x2] (gi res) := Ct.of (lv := [(0, va_rf x0), (1, .int x1), (2, .int x2)]) (ls := [some (va_rf x0), some (.int x1), some (.int x2)]) (by decide) (by simp [lv_args, g_cat_rf, cat_i, cat_l]) rfl (by simp [g_cat_rf, cat_i, cat_l]) (fun G => (t_X12_shown_0 N A x0 x1 x2 res h))
abbrev mX12_isThing : gM := gMk yX12_isThing cX12_isThing 2 (some .boolean)
def f_X12_isThing_0 (N : Nat) (A : hP) (x0 : Option Nat) (x1 : Int32) : Option (Int32 × hP) := (oR A x0 11 5).bind fun v1 => (oA A v1 0 (3 : Int32)).bind fun v2 => (f_X12_in N A x1.toInt64 (0 : Int64) ((v2 - (1 : Int32)).toInt64)).bind fun q3 => if q3.1 = 0 ∨ q3.1 = 1 then some (q3.1, q3.2) else none
set_option maxRecDepth 20000 in
set_option maxHeartbeats 4000000 in
theorem t_X12_isThing_0 {l : Launch} {G : gS} (N : Nat) (A : hP) (x0 : Option Nat) (x1 : Int32) (res : Int32 × hP) (h : f_X12_isThing_0 N A x0 x1 = some res) : AW l mX12_isThing (g_rm 1 0 0) G (g_Qf G (gi res) 0 0) A 0 0 0 [some (va_rf x0), some (.int x1)] [] := by
  unfold f_X12_isThing_0 at h
  refine AW_iload_n dX12_isThing_0 rfl ?_
  refine AW_i2l dX12_isThing_1 ?_
  refine AW_lconst (v := 0) dX12_isThing_2 (by decide) ?_
  refine AW_aload_n dX12_isThing_3 rfl ?_
  refine AW_getR (ci := 11) (k0 := 5) (C := RX12) (T := TX12) (N := 31) dX12_isThing_4 rfl (gT_u tU_X12) (by decide) (List.mem_cons_of_mem _ tF_X12_19) h (fun v1 _ h => ?_)
  refine AW_iconst (v := 3) dX12_isThing_7 (by decide) ?_
  refine AW_iald dX12_isThing_8 h (fun v2 _ h => ?_)
  refine AW_iconst (v := 1) dX12_isThing_9 (by decide) ?_
  refine AW_isub dX12_isThing_10 ?_
  refine AW_i2l dX12_isThing_11 ?_
  refine AW_callSi (y := yX12_in) (cc := cX12_in) (n := 6) (d := 0) (mc := 0) (ms := 0) (np := 3) (ret := (some .boolean)) (As := [.long x1.toInt64, .long (0 : Int64), .long ((v2 - (1 : Int32)).toInt64)]) (st := []) dX12_isThing_12 gT_s tM_X12_57 tS_X12_in tIni_X12 tY_X12_in (by decide +kernel) ⟨by decide, by decide⟩ ⟨by decide, by decide⟩ (Nat.le_of_ble_eq_true rfl) rfl h (fun q hq => c_X12_in N _ _ _ _ q hq) (fun q3 _ h => ?_)
  exact AW_zret dX12_isThing_15 rfl ⟨Nat.zero_le _, Nat.zero_le _⟩ h
def f_X12_isThing (N : Nat) (A : hP) (x0 : Option Nat) (x1 : Int32) : Option (Int32 × hP) := f_X12_isThing_0 N A x0 x1
set_option maxRecDepth 20000 in
theorem c_X12_isThing {l : Launch} (N : Nat) (A : hP) (x0 : Option Nat) (x1 : Int32) (res : Int32 × hP) (h : f_X12_isThing N A x0 x1 = some res) : Ct l mX12_isThing 1 0 0 A [va_rf x0, .int x1] (gi res) := Ct.of (lv := [(0, va_rf x0), (1, .int x1)]) (ls := [some (va_rf x0), some (.int x1)]) (by decide) (by simp [lv_args, g_cat_rf, cat_i, cat_l]) rfl (by simp [g_cat_rf, cat_i, cat_l]) (fun G => (t_X12_isThing_0 N A x0 x1 res h))
abbrev mX12_heavy : gM := gMk yX12_heavy cX12_heavy 3 (some .int)
def f_X12_heavy_27 (N : Nat) (A : hP) : Option (Int32 × hP) := some ((-1000001 : Int32), A)
set_option maxRecDepth 20000 in
set_option maxHeartbeats 4000000 in
theorem t_X12_heavy_27 {l : Launch} {G : gS} (N : Nat) (A : hP) (res : Int32 × hP) (h : f_X12_heavy_27 N A  = some res) : AW l mX12_heavy (g_rm 2 0 0) G (g_Qf G (gi res) 0 0) A 0 0 27 [none, none, none] [] := by
  unfold f_X12_heavy_27 at h
  refine AW_ldc (v := -1000001) dX12_heavy_27 (List.mem_cons_of_mem _ tK_X12_67) ?_
  exact AW_iret dX12_heavy_29 rfl ⟨Nat.zero_le _, Nat.zero_le _⟩ h
def f_X12_heavy_53 (N : Nat) (A : hP) (s0 : Int32) : Option (Int32 × hP) := some (s0, A)
set_option maxRecDepth 20000 in
set_option maxHeartbeats 4000000 in
theorem t_X12_heavy_53 {l : Launch} {G : gS} (N : Nat) (A : hP) (s0 : Int32) (res : Int32 × hP) (h : f_X12_heavy_53 N A s0 = some res) : AW l mX12_heavy (g_rm 2 0 0) G (g_Qf G (gi res) 0 0) A 0 0 53 [none, none, none] [.int s0] := by
  unfold f_X12_heavy_53 at h
  exact AW_iret dX12_heavy_53 rfl ⟨Nat.zero_le _, Nat.zero_le _⟩ h
def f_X12_heavy_0 (N : Nat) (A : hP) (x0 : Option Nat) (x1 : Int32) (x2 : Int32) : Option (Int32 × hP) := (oP A x0 11 0 (.int (0 : Int32))).bind fun A1 => (oCk A1 x0 11).bind fun _ => (f_X12_isThing N A1 x0 x1).bind fun q2 => if q2.1 = (0) then (f_X12_heavy_27 N q2.2) else ((f_X12_in N q2.2 x2.toInt64 (-1 : Int64) (99 : Int64)).bind fun q3 => if q3.1 = (0) then (f_X12_heavy_27 N q3.2) else ((oCk q3.2 x0 11).bind fun _ => (f_X12_layTruly N q3.2 x0).bind fun q4 => if (0) ≤ x2 then ((oCk q4.2 x0 11).bind fun _ => (f_X12_heavyOn N q4.2 x0 x1 x2).bind fun q5 => f_X12_heavy_53 N q5.2 q5.1) else ((oR q4.2 x0 11 17).bind fun v6 => (oA q4.2 v6 0 x1).bind fun v7 => f_X12_heavy_53 N q4.2 v7)))
set_option maxRecDepth 20000 in
set_option maxHeartbeats 4000000 in
theorem t_X12_heavy_0 {l : Launch} {G : gS} (N : Nat) (A : hP) (x0 : Option Nat) (x1 : Int32) (x2 : Int32) (res : Int32 × hP) (h : f_X12_heavy_0 N A x0 x1 x2 = some res) : AW l mX12_heavy (g_rm 2 0 0) G (g_Qf G (gi res) 0 0) A 0 0 0 [some (va_rf x0), some (.int x1), some (.int x2)] [] := by
  unfold f_X12_heavy_0 at h
  refine AW_aload_n dX12_heavy_0 rfl ?_
  refine AW_iconst (v := 0) dX12_heavy_1 (by decide) ?_
  refine AW_put (ci := 11) (k0 := 0) (C := RX12) (T := TX12) (N := 31) (ty0 := tyX12) dX12_heavy_2 rfl (gT_u tU_X12) tyX12_ok nmX12 (by decide) (List.mem_cons_of_mem _ tF_X12_47) (Or.inl rfl) rfl rfl h (fun A1 _ h => ?_)
  refine AW_aload_n dX12_heavy_5 rfl ?_
  refine AW_iload_n dX12_heavy_6 rfl ?_
  refine AW_callVi (y := yX12_isThing) (cc := cX12_isThing) (n := 2) (d := 1) (mc := 0) (ms := 0) (np := 1) (ret := (some .boolean)) (As := [.int x1]) (st := []) (ci := 11) dX12_heavy_7 gT_s rfl tM_X12_214 tI_X12_isThing selp_X12_isThing tIni_X12 tY_X12_isThing (by decide +kernel) ⟨by decide, by decide⟩ ⟨by decide, by decide⟩ (Nat.le_of_ble_eq_true rfl) rfl h (fun q hq => c_X12_isThing N _ _ _ q hq) (fun q2 _ h => ?_)
  refine AW_if_eq (tgt := 27) dX12_heavy_10 (by decide) h (fun _ h => ?_) (fun _ h => ?_)
  · exact AW_fewer (fw_d (fw_d (fw_d fw_n))) (t_X12_heavy_27 N _ _ h)
  · refine AW_iload_n dX12_heavy_13 rfl ?_
    refine AW_i2l dX12_heavy_14 ?_
    refine AW_ldc2 (v := -1) dX12_heavy_15 (List.mem_cons_of_mem _ tL_X12_217) ?_
    refine AW_ldc2 (v := 99) dX12_heavy_18 (List.mem_cons_of_mem _ tL_X12_219) ?_
    refine AW_callSi (y := yX12_in) (cc := cX12_in) (n := 6) (d := 0) (mc := 0) (ms := 0) (np := 3) (ret := (some .boolean)) (As := [.long x2.toInt64, .long (-1 : Int64), .long (99 : Int64)]) (st := []) dX12_heavy_21 gT_s tM_X12_57 tS_X12_in tIni_X12 tY_X12_in (by decide +kernel) ⟨by decide, by decide⟩ ⟨by decide, by decide⟩ (Nat.le_of_ble_eq_true rfl) rfl h (fun q hq => c_X12_in N _ _ _ _ q hq) (fun q3 _ h => ?_)
    refine AW_if_ne (tgt := 30) dX12_heavy_24 (by decide) h (fun _ h => ?_) (fun _ h => ?_)
    · refine AW_aload_n dX12_heavy_30 rfl ?_
      refine AW_callVu (y := yX12_layTruly) (cc := cX12_layTruly) (n := 2) (d := 0) (mc := 0) (ms := 0) (np := 0) (ret := none) (As := []) (st := []) (ci := 11) dX12_heavy_31 gT_s rfl tM_X12_203 tI_X12_layTruly selp_X12_layTruly tIni_X12 tY_X12_layTruly (by decide +kernel) ⟨by decide, by decide⟩ ⟨by decide, by decide⟩ (Nat.le_of_ble_eq_true rfl) rfl h (fun q hq => c_X12_layTruly N _ _ q hq) (fun q4 _ h => ?_)
      refine AW_iload_n dX12_heavy_34 rfl ?_
      refine AW_if_ge (tgt := 47) dX12_heavy_35 (by decide) h (fun _ h => ?_) (fun _ h => ?_)
      · refine AW_aload_n dX12_heavy_47 rfl ?_
        refine AW_iload_n dX12_heavy_48 rfl ?_
        refine AW_iload_n dX12_heavy_49 rfl ?_
        refine AW_callVi (y := yX12_heavyOn) (cc := cX12_heavyOn) (n := 3) (d := 1) (mc := 0) (ms := 0) (np := 2) (ret := (some .int)) (As := [.int x1, .int x2]) (st := []) (ci := 11) dX12_heavy_50 gT_s rfl tM_X12_186 tI_X12_heavyOn selp_X12_heavyOn tIni_X12 tY_X12_heavyOn (by decide +kernel) ⟨by decide, by decide⟩ ⟨by decide, by decide⟩ (Nat.le_of_ble_eq_true rfl) rfl h (fun q hq => c_X12_heavyOn N _ _ _ _ q hq) (fun q5 _ h => ?_)
        exact AW_fewer (fw_d (fw_d (fw_d fw_n))) (t_X12_heavy_53 N _ _ _ h)
      · refine AW_aload_n dX12_heavy_38 rfl ?_
        refine AW_getR (ci := 11) (k0 := 17) (C := RX12) (T := TX12) (N := 31) dX12_heavy_39 rfl (gT_u tU_X12) (by decide) (List.mem_cons_of_mem _ tF_X12_28) h (fun v6 _ h => ?_)
        refine AW_iload_n dX12_heavy_42 rfl ?_
        refine AW_iald dX12_heavy_43 h (fun v7 _ h => ?_)
        refine AW_goto (tgt := 53) dX12_heavy_44 (by decide) ?_
        exact AW_fewer (fw_d (fw_d (fw_d fw_n))) (t_X12_heavy_53 N _ _ _ h)
    · exact AW_fewer (fw_d (fw_d (fw_d fw_n))) (t_X12_heavy_27 N _ _ h)
def f_X12_heavy (N : Nat) (A : hP) (x0 : Option Nat) (x1 : Int32) (x2 : Int32) : Option (Int32 × hP) := f_X12_heavy_0 N A x0 x1 x2
set_option maxRecDepth 20000 in
theorem c_X12_heavy {l : Launch} (N : Nat) (A : hP) (x0 : Option Nat) (x1 : Int32) (x2 : Int32) (res : Int32 × hP) (h : f_X12_heavy N A x0 x1 x2 = some res) : Ct l mX12_heavy 2 0 0 A [va_rf x0, .int x1, .int x2] (gi res) := Ct.of (lv := [(0, va_rf x0), (1, .int x1), (2, .int x2)]) (ls := [some (va_rf x0), some (.int x1), some (.int x2)]) (by decide) (by simp [lv_args, g_cat_rf, cat_i, cat_l]) rfl (by simp [g_cat_rf, cat_i, cat_l]) (fun G => (t_X12_heavy_0 N A x0 x1 x2 res h))
abbrev mX12_next : gM := gMk yX12_next cX12_next 2 (some .int)
def f_X12_next_0 (N : Nat) (A : hP) (x0 : Option Nat) (x1 : Int32) : Option (Int32 × hP) := (oP A x0 11 0 (.int (0 : Int32))).bind fun A1 => (oCk A1 x0 11).bind fun _ => (f_X12_isThere N A1 x0).bind fun q2 => if q2.1 = (0) then (some ((-1000002 : Int32), q2.2)) else ((oCk q2.2 x0 11).bind fun _ => (f_X12_isSet N q2.2 x0 x1).bind fun q3 => if q3.1 = (0) then (some ((-1000001 : Int32), q3.2)) else ((oR q3.2 x0 11 5).bind fun v4 => (oR q3.2 x0 11 5).bind fun v5 => (oA q3.2 v5 0 (4 : Int32)).bind fun v6 => (oS q3.2 v4 0 ((13 : Int32) + v6) x1).bind fun A7 => (oCk A7 x0 11).bind fun _ => (f_X12_layTruly N A7 x0).bind fun q8 => (oR q8.2 x0 11 5).bind fun v9 => (oA q8.2 v9 0 (4 : Int32)).bind fun v10 => (oCk q8.2 x0 11).bind fun _ => (f_X12_shows N q8.2 x0 v10).bind fun q11 => some (q11.1, q11.2)))
set_option maxRecDepth 20000 in
set_option maxHeartbeats 4000000 in
theorem t_X12_next_0 {l : Launch} {G : gS} (N : Nat) (A : hP) (x0 : Option Nat) (x1 : Int32) (res : Int32 × hP) (h : f_X12_next_0 N A x0 x1 = some res) : AW l mX12_next (g_rm 4 0 0) G (g_Qf G (gi res) 0 0) A 0 0 0 [some (va_rf x0), some (.int x1)] [] := by
  unfold f_X12_next_0 at h
  refine AW_aload_n dX12_next_0 rfl ?_
  refine AW_iconst (v := 0) dX12_next_1 (by decide) ?_
  refine AW_put (ci := 11) (k0 := 0) (C := RX12) (T := TX12) (N := 31) (ty0 := tyX12) dX12_next_2 rfl (gT_u tU_X12) tyX12_ok nmX12 (by decide) (List.mem_cons_of_mem _ tF_X12_47) (Or.inl rfl) rfl rfl h (fun A1 _ h => ?_)
  refine AW_aload_n dX12_next_5 rfl ?_
  refine AW_callVi (y := yX12_isThere) (cc := cX12_isThere) (n := 1) (d := 0) (mc := 0) (ms := 0) (np := 0) (ret := (some .boolean)) (As := []) (st := []) (ci := 11) dX12_next_6 gT_s rfl tM_X12_195 tI_X12_isThere selp_X12_isThere tIni_X12 tY_X12_isThere (by decide +kernel) ⟨by decide, by decide⟩ ⟨by decide, by decide⟩ (Nat.le_of_ble_eq_true rfl) rfl h (fun q hq => c_X12_isThere N _ _ q hq) (fun q2 _ h => ?_)
  refine AW_if_ne (tgt := 15) dX12_next_9 (by decide) h (fun _ h => ?_) (fun _ h => ?_)
  · refine AW_aload_n dX12_next_15 rfl ?_
    refine AW_iload_n dX12_next_16 rfl ?_
    refine AW_callVi (y := yX12_isSet) (cc := cX12_isSet) (n := 2) (d := 1) (mc := 0) (ms := 0) (np := 1) (ret := (some .boolean)) (As := [.int x1]) (st := []) (ci := 11) dX12_next_17 gT_s rfl tM_X12_200 tI_X12_isSet selp_X12_isSet tIni_X12 tY_X12_isSet (by decide +kernel) ⟨by decide, by decide⟩ ⟨by decide, by decide⟩ (Nat.le_of_ble_eq_true rfl) rfl h (fun q hq => c_X12_isSet N _ _ _ q hq) (fun q3 _ h => ?_)
    refine AW_if_ne (tgt := 26) dX12_next_20 (by decide) h (fun _ h => ?_) (fun _ h => ?_)
    · refine AW_aload_n dX12_next_26 rfl ?_
      refine AW_getR (ci := 11) (k0 := 5) (C := RX12) (T := TX12) (N := 31) dX12_next_27 rfl (gT_u tU_X12) (by decide) (List.mem_cons_of_mem _ tF_X12_19) h (fun v4 _ h => ?_)
      refine AW_bipush (v := 13) dX12_next_30 (by decide) ?_
      refine AW_aload_n dX12_next_32 rfl ?_
      refine AW_getR (ci := 11) (k0 := 5) (C := RX12) (T := TX12) (N := 31) dX12_next_33 rfl (gT_u tU_X12) (by decide) (List.mem_cons_of_mem _ tF_X12_19) h (fun v5 _ h => ?_)
      refine AW_iconst (v := 4) dX12_next_36 (by decide) ?_
      refine AW_iald dX12_next_37 h (fun v6 _ h => ?_)
      refine AW_iadd dX12_next_38 ?_
      refine AW_iload_n dX12_next_39 rfl ?_
      refine AW_iast dX12_next_40 h (fun A7 _ h => ?_)
      refine AW_aload_n dX12_next_41 rfl ?_
      refine AW_callVu (y := yX12_layTruly) (cc := cX12_layTruly) (n := 2) (d := 0) (mc := 0) (ms := 0) (np := 0) (ret := none) (As := []) (st := []) (ci := 11) dX12_next_42 gT_s rfl tM_X12_203 tI_X12_layTruly selp_X12_layTruly tIni_X12 tY_X12_layTruly (by decide +kernel) ⟨by decide, by decide⟩ ⟨by decide, by decide⟩ (Nat.le_of_ble_eq_true rfl) rfl h (fun q hq => c_X12_layTruly N _ _ q hq) (fun q8 _ h => ?_)
      refine AW_aload_n dX12_next_45 rfl ?_
      refine AW_aload_n dX12_next_46 rfl ?_
      refine AW_getR (ci := 11) (k0 := 5) (C := RX12) (T := TX12) (N := 31) dX12_next_47 rfl (gT_u tU_X12) (by decide) (List.mem_cons_of_mem _ tF_X12_19) h (fun v9 _ h => ?_)
      refine AW_iconst (v := 4) dX12_next_50 (by decide) ?_
      refine AW_iald dX12_next_51 h (fun v10 _ h => ?_)
      refine AW_callVi (y := yX12_shows) (cc := cX12_shows) (n := 5) (d := 3) (mc := 0) (ms := 0) (np := 1) (ret := (some .int)) (As := [.int v10]) (st := []) (ci := 11) dX12_next_52 gT_s rfl tM_X12_206 tI_X12_shows selp_X12_shows tIni_X12 tY_X12_shows (by decide +kernel) ⟨by decide, by decide⟩ ⟨by decide, by decide⟩ (Nat.le_of_ble_eq_true rfl) rfl h (fun q hq => c_X12_shows N _ _ _ q hq) (fun q11 _ h => ?_)
      exact AW_iret dX12_next_55 rfl ⟨Nat.zero_le _, Nat.zero_le _⟩ h
    · refine AW_ldc (v := -1000001) dX12_next_23 (List.mem_cons_of_mem _ tK_X12_67) ?_
      exact AW_iret dX12_next_25 rfl ⟨Nat.zero_le _, Nat.zero_le _⟩ h
  · refine AW_ldc (v := -1000002) dX12_next_12 (List.mem_cons_of_mem _ tK_X12_199) ?_
    exact AW_iret dX12_next_14 rfl ⟨Nat.zero_le _, Nat.zero_le _⟩ h
def f_X12_next (N : Nat) (A : hP) (x0 : Option Nat) (x1 : Int32) : Option (Int32 × hP) := f_X12_next_0 N A x0 x1
set_option maxRecDepth 20000 in
theorem c_X12_next {l : Launch} (N : Nat) (A : hP) (x0 : Option Nat) (x1 : Int32) (res : Int32 × hP) (h : f_X12_next N A x0 x1 = some res) : Ct l mX12_next 4 0 0 A [va_rf x0, .int x1] (gi res) := Ct.of (lv := [(0, va_rf x0), (1, .int x1)]) (ls := [some (va_rf x0), some (.int x1)]) (by decide) (by simp [lv_args, g_cat_rf, cat_i, cat_l]) rfl (by simp [g_cat_rf, cat_i, cat_l]) (fun G => (t_X12_next_0 N A x0 x1 res h))
