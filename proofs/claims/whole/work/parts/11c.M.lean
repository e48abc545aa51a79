abbrev mX12_barred : gM := gMk yX12_barred cX12_barred 4 (some .int)
def f_X12_barred_21 (N : Nat) (A : hP) : Option (Int32 × hP) := some ((-1000001 : Int32), A)
set_option maxRecDepth 20000 in
set_option maxHeartbeats 4000000 in
theorem t_X12_barred_21 {l : Launch} {G : gS} (N : Nat) (A : hP) (res : Int32 × hP) (h : f_X12_barred_21 N A  = some res) : AW l mX12_barred (g_rm 2 0 0) G (g_Qf G (gi res) 0 0) A 0 0 21 [none, none, none, none] [] := by
  unfold f_X12_barred_21 at h
  refine AW_ldc (v := -1000001) dX12_barred_21 (List.mem_cons_of_mem _ tK_X12_67) ?_
  exact AW_iret dX12_barred_23 rfl ⟨Nat.zero_le _, Nat.zero_le _⟩ h
def f_X12_barred_62 (N : Nat) : Nat → hP → Option Nat → Int32 → Int32 → Option (Int32 × hP)
  | 0, _, _, _, _ => none
  | n + 1, A, x0, x1, x3 => (oR A x0 11 5).bind fun v1 => (oA A v1 0 (4 : Int32)).bind fun v2 => if v2 ≤ x3 then ((oP A x0 11 1 (.int (0 : Int32))).bind fun A3 => (oCk A3 x0 11).bind fun _ => (f_X12_layTruly N A3 x0).bind fun q4 => some ((0 : Int32), q4.2)) else ((oR A x0 11 4).bind fun v5 => (oA A v5 0 (((40 : Int32) * x1) + x3)).bind fun v6 => if (-1 : Int32) ≤ v6 then (f_X12_barred_62 N n A x0 x1 (x3 + (1 : Int32))) else (some ((-1000001 : Int32), A)))
set_option maxRecDepth 20000 in
set_option maxHeartbeats 4000000 in
theorem t_X12_barred_62 {l : Launch} {G : gS} (N : Nat) : ∀ (n : Nat) (A : hP) (x0 : Option Nat) (x1 : Int32) (x3 : Int32) (res : Int32 × hP), f_X12_barred_62 N n A x0 x1 x3 = some res → AW l mX12_barred (g_rm 2 0 0) G (g_Qf G (gi res) 0 0) A 0 0 62 [some (va_rf x0), some (.int x1), none, some (.int x3)] [] := by
  intro n
  induction n with
  | zero => intro A x0 x1 x3 res h; cases h
  | succ n ih =>
    intro A x0 x1 x3 res h
    rw [f_X12_barred_62] at h
    refine AW_iload_n dX12_barred_62 rfl ?_
    refine AW_aload_n dX12_barred_63 rfl ?_
    refine AW_getR (ci := 11) (k0 := 5) (C := RX12) (T := TX12) (N := 31) dX12_barred_64 rfl (gT_u tU_X12) (by decide) (List.mem_cons_of_mem _ tF_X12_19) h (fun v1 _ h => ?_)
    refine AW_iconst (v := 4) dX12_barred_67 (by decide) ?_
    refine AW_iald dX12_barred_68 h (fun v2 _ h => ?_)
    refine AW_icmp_ge (tgt := 96) dX12_barred_69 (by decide) h (fun _ h => ?_) (fun _ h => ?_)
    · refine AW_aload_n dX12_barred_96 rfl ?_
      refine AW_iconst (v := 0) dX12_barred_97 (by decide) ?_
      refine AW_put (ci := 11) (k0 := 1) (C := RX12) (T := TX12) (N := 31) (ty0 := tyX12) dX12_barred_98 rfl (gT_u tU_X12) tyX12_ok nmX12 (by decide) (List.mem_cons_of_mem _ tF_X12_51) (Or.inl rfl) rfl rfl h (fun A3 _ h => ?_)
      refine AW_aload_n dX12_barred_101 rfl ?_
      refine AW_callVu (y := yX12_layTruly) (cc := cX12_layTruly) (n := 2) (d := 0) (mc := 0) (ms := 0) (np := 0) (ret := none) (As := []) (st := []) (ci := 11) dX12_barred_102 gT_s rfl tM_X12_203 tI_X12_layTruly selp_X12_layTruly tIni_X12 tY_X12_layTruly (by decide +kernel) ⟨by decide, by decide⟩ ⟨by decide, by decide⟩ (Nat.le_of_ble_eq_true rfl) rfl h (fun q hq => c_X12_layTruly N _ _ q hq) (fun q4 _ h => ?_)
      refine AW_iconst (v := 0) dX12_barred_105 (by decide) ?_
      exact AW_iret dX12_barred_106 rfl ⟨Nat.zero_le _, Nat.zero_le _⟩ h
    · refine AW_aload_n dX12_barred_72 rfl ?_
      refine AW_getR (ci := 11) (k0 := 4) (C := RX12) (T := TX12) (N := 31) dX12_barred_73 rfl (gT_u tU_X12) (by decide) (List.mem_cons_of_mem _ tF_X12_16) h (fun v5 _ h => ?_)
      refine AW_bipush (v := 40) dX12_barred_76 (by decide) ?_
      refine AW_iload_n dX12_barred_78 rfl ?_
      refine AW_imul dX12_barred_79 ?_
      refine AW_iload_n dX12_barred_80 rfl ?_
      refine AW_iadd dX12_barred_81 ?_
      refine AW_iald dX12_barred_82 h (fun v6 _ h => ?_)
      refine AW_iconst (v := -1) dX12_barred_83 (by decide) ?_
      refine AW_icmp_ge (tgt := 90) dX12_barred_84 (by decide) h (fun _ h => ?_) (fun _ h => ?_)
      · refine AW_iinc (v := 1) (ls' := [some (va_rf x0), some (.int x1), none, some (.int (x3 + (1 : Int32)))]) dX12_barred_90 rfl (c1_n rfl) (by decide) (by decide) rfl ?_
        refine AW_goto (tgt := 62) dX12_barred_93 (by decide) ?_
        exact (ih _ _ _ _ _ h)
      · refine AW_ldc (v := -1000001) dX12_barred_87 (List.mem_cons_of_mem _ tK_X12_67) ?_
        exact AW_iret dX12_barred_89 rfl ⟨Nat.zero_le _, Nat.zero_le _⟩ h
def f_X12_barred_0 (N : Nat) (A : hP) (x0 : Option Nat) (x1 : Int32) (x2 : Int32) : Option (Int32 × hP) := (oCk A x0 11).bind fun _ => (f_X12_isThere N A x0).bind fun q7 => if q7.1 = (0) then (some ((-1000002 : Int32), q7.2)) else ((f_X12_isRow N q7.2 x1).bind fun q8 => if q8.1 = (0) then (f_X12_barred_21 N q8.2) else (if x2 = (0) then (f_X12_barred_21 N q8.2) else ((oR q8.2 x0 11 2).bind fun v9 => (oA q8.2 v9 0 x1).bind fun v10 => if (0) ≤ v10 then ((oR q8.2 x0 11 5).bind fun v11 => (oA q8.2 v11 0 (4 : Int32)).bind fun v12 => (oR q8.2 x0 11 3).bind fun v13 => (oA q8.2 v13 0 x1).bind fun v14 => if v12 ≤ v14 then (f_X12_barred_62 N N q8.2 x0 x1 (0 : Int32)) else ((oCk q8.2 x0 11).bind fun _ => (f_X12_finding N q8.2 x0 (2 : Int32)).bind fun q15 => some (q15.1, q15.2))) else ((oCk q8.2 x0 11).bind fun _ => (f_X12_finding N q8.2 x0 (1 : Int32)).bind fun q16 => some (q16.1, q16.2)))))
set_option maxRecDepth 20000 in
set_option maxHeartbeats 4000000 in
theorem t_X12_barred_0 {l : Launch} {G : gS} (N : Nat) (A : hP) (x0 : Option Nat) (x1 : Int32) (x2 : Int32) (res : Int32 × hP) (h : f_X12_barred_0 N A x0 x1 x2 = some res) : AW l mX12_barred (g_rm 2 0 0) G (g_Qf G (gi res) 0 0) A 0 0 0 [some (va_rf x0), some (.int x1), some (.int x2), none] [] := by
  unfold f_X12_barred_0 at h
  refine AW_aload_n dX12_barred_0 rfl ?_
  refine AW_callVi (y := yX12_isThere) (cc := cX12_isThere) (n := 1) (d := 0) (mc := 0) (ms := 0) (np := 0) (ret := (some .boolean)) (As := []) (st := []) (ci := 11) dX12_barred_1 gT_s rfl tM_X12_195 tI_X12_isThere selp_X12_isThere tIni_X12 tY_X12_isThere (by decide +kernel) ⟨by decide, by decide⟩ ⟨by decide, by decide⟩ (Nat.le_of_ble_eq_true rfl) rfl h (fun q hq => c_X12_isThere N _ _ q hq) (fun q7 _ h => ?_)
  refine AW_if_ne (tgt := 10) dX12_barred_4 (by decide) h (fun _ h => ?_) (fun _ h => ?_)
  · refine AW_iload_n dX12_barred_10 rfl ?_
    refine AW_callSi (y := yX12_isRow) (cc := cX12_isRow) (n := 1) (d := 1) (mc := 0) (ms := 0) (np := 1) (ret := (some .boolean)) (As := [.int x1]) (st := []) dX12_barred_11 gT_s tM_X12_61 tS_X12_isRow tIni_X12 tY_X12_isRow (by decide +kernel) ⟨by decide, by decide⟩ ⟨by decide, by decide⟩ (Nat.le_of_ble_eq_true rfl) rfl h (fun q hq => c_X12_isRow N _ _ q hq) (fun q8 _ h => ?_)
    refine AW_if_eq (tgt := 21) dX12_barred_14 (by decide) h (fun _ h => ?_) (fun _ h => ?_)
    · exact AW_fewer (fw_d (fw_d (fw_d (fw_k fw_n)))) (t_X12_barred_21 N _ _ h)
    · refine AW_iload_n dX12_barred_17 rfl ?_
      refine AW_if_ne (tgt := 24) dX12_barred_18 (by decide) h (fun _ h => ?_) (fun _ h => ?_)
      · refine AW_aload_n dX12_barred_24 rfl ?_
        refine AW_getR (ci := 11) (k0 := 2) (C := RX12) (T := TX12) (N := 31) dX12_barred_25 rfl (gT_u tU_X12) (by decide) (List.mem_cons_of_mem _ tF_X12_7) h (fun v9 _ h => ?_)
        refine AW_iload_n dX12_barred_28 rfl ?_
        refine AW_iald dX12_barred_29 h (fun v10 _ h => ?_)
        refine AW_if_ge (tgt := 39) dX12_barred_30 (by decide) h (fun _ h => ?_) (fun _ h => ?_)
        · refine AW_aload_n dX12_barred_39 rfl ?_
          refine AW_getR (ci := 11) (k0 := 5) (C := RX12) (T := TX12) (N := 31) dX12_barred_40 rfl (gT_u tU_X12) (by decide) (List.mem_cons_of_mem _ tF_X12_19) h (fun v11 _ h => ?_)
          refine AW_iconst (v := 4) dX12_barred_43 (by decide) ?_
          refine AW_iald dX12_barred_44 h (fun v12 _ h => ?_)
          refine AW_aload_n dX12_barred_45 rfl ?_
          refine AW_getR (ci := 11) (k0 := 3) (C := RX12) (T := TX12) (N := 31) dX12_barred_46 rfl (gT_u tU_X12) (by decide) (List.mem_cons_of_mem _ tF_X12_13) h (fun v13 _ h => ?_)
          refine AW_iload_n dX12_barred_49 rfl ?_
          refine AW_iald dX12_barred_50 h (fun v14 _ h => ?_)
          refine AW_icmp_le (tgt := 60) dX12_barred_51 (by decide) h (fun _ h => ?_) (fun _ h => ?_)
          · refine AW_iconst (v := 0) dX12_barred_60 (by decide) ?_
            refine AW_istore_n (ls' := [some (va_rf x0), some (.int x1), some (.int x2), some (.int (0 : Int32))]) dX12_barred_61 (c1_i rfl) (by decide) rfl ?_
            exact AW_fewer (fw_k (fw_k (fw_d (fw_k fw_n)))) (t_X12_barred_62 N N _ _ _ _ _ h)
          · refine AW_aload_n dX12_barred_54 rfl ?_
            refine AW_iconst (v := 2) dX12_barred_55 (by decide) ?_
            refine AW_callVi (y := yX12_finding) (cc := cX12_finding) (n := 2) (d := 0) (mc := 0) (ms := 0) (np := 1) (ret := (some .int)) (As := [.int (2 : Int32)]) (st := []) (ci := 11) dX12_barred_56 gT_s rfl tM_X12_68 tI_X12_finding selp_X12_finding tIni_X12 tY_X12_finding (by decide +kernel) ⟨by decide, by decide⟩ ⟨by decide, by decide⟩ (Nat.le_of_ble_eq_true rfl) rfl h (fun q hq => c_X12_finding N _ _ _ q hq) (fun q15 _ h => ?_)
            exact AW_iret dX12_barred_59 rfl ⟨Nat.zero_le _, Nat.zero_le _⟩ h
        · refine AW_aload_n dX12_barred_33 rfl ?_
          refine AW_iconst (v := 1) dX12_barred_34 (by decide) ?_
          refine AW_callVi (y := yX12_finding) (cc := cX12_finding) (n := 2) (d := 0) (mc := 0) (ms := 0) (np := 1) (ret := (some .int)) (As := [.int (1 : Int32)]) (st := []) (ci := 11) dX12_barred_35 gT_s rfl tM_X12_68 tI_X12_finding selp_X12_finding tIni_X12 tY_X12_finding (by decide +kernel) ⟨by decide, by decide⟩ ⟨by decide, by decide⟩ (Nat.le_of_ble_eq_true rfl) rfl h (fun q hq => c_X12_finding N _ _ _ q hq) (fun q16 _ h => ?_)
          exact AW_iret dX12_barred_38 rfl ⟨Nat.zero_le _, Nat.zero_le _⟩ h
      · exact AW_fewer (fw_d (fw_d (fw_d (fw_k fw_n)))) (t_X12_barred_21 N _ _ h)
  · refine AW_ldc (v := -1000002) dX12_barred_7 (List.mem_cons_of_mem _ tK_X12_199) ?_
    exact AW_iret dX12_barred_9 rfl ⟨Nat.zero_le _, Nat.zero_le _⟩ h
def f_X12_barred (N : Nat) (A : hP) (x0 : Option Nat) (x1 : Int32) (x2 : Int32) : Option (Int32 × hP) := f_X12_barred_0 N A x0 x1 x2
set_option maxRecDepth 20000 in
theorem c_X12_barred {l : Launch} (N : Nat) (A : hP) (x0 : Option Nat) (x1 : Int32) (x2 : Int32) (res : Int32 × hP) (h : f_X12_barred N A x0 x1 x2 = some res) : Ct l mX12_barred 2 0 0 A [va_rf x0, .int x1, .int x2] (gi res) := Ct.of (lv := [(0, va_rf x0), (1, .int x1), (2, .int x2)]) (ls := [some (va_rf x0), some (.int x1), some (.int x2), none]) (by decide) (by simp [lv_args, g_cat_rf, cat_i, cat_l]) rfl (by simp [g_cat_rf, cat_i, cat_l]) (fun G => (t_X12_barred_0 N A x0 x1 x2 res h))
abbrev mX12_worlds : gM := gMk yX12_worlds cX12_worlds 1 (some .int)
def f_X12_worlds_0 (N : Nat) (A : hP) (x0 : Option Nat) : Option (Int32 × hP) := (oR A x0 11 5).bind fun v1 => (oA A v1 0 (3 : Int32)).bind fun v2 => some ((1 : Int32) <<< (((3 : Int32) * v2) &&& 31), A)
set_option maxRecDepth 20000 in
set_option maxHeartbeats 4000000 in
theorem t_X12_worlds_0 {l : Launch} {G : gS} (N : Nat) (A : hP) (x0 : Option Nat) (res : Int32 × hP) (h : f_X12_worlds_0 N A x0 = some res) : AW l mX12_worlds (g_rm 0 0 0) G (g_Qf G (gi res) 0 0) A 0 0 0 [some (va_rf x0)] [] := by
  unfold f_X12_worlds_0 at h
  refine AW_iconst (v := 1) dX12_worlds_0 (by decide) ?_
  refine AW_iconst (v := 3) dX12_worlds_1 (by decide) ?_
  refine AW_aload_n dX12_worlds_2 rfl ?_
  refine AW_getR (ci := 11) (k0 := 5) (C := RX12) (T := TX12) (N := 31) dX12_worlds_3 rfl (gT_u tU_X12) (by decide) (List.mem_cons_of_mem _ tF_X12_19) h (fun v1 _ h => ?_)
  refine AW_iconst (v := 3) dX12_worlds_6 (by decide) ?_
  refine AW_iald dX12_worlds_7 h (fun v2 _ h => ?_)
  refine AW_imul dX12_worlds_8 ?_
  refine AW_ishl dX12_worlds_9 ?_
  exact AW_iret dX12_worlds_10 rfl ⟨Nat.zero_le _, Nat.zero_le _⟩ h
def f_X12_worlds (N : Nat) (A : hP) (x0 : Option Nat) : Option (Int32 × hP) := f_X12_worlds_0 N A x0
set_option maxRecDepth 20000 in
theorem c_X12_worlds {l : Launch} (N : Nat) (A : hP) (x0 : Option Nat) (res : Int32 × hP) (h : f_X12_worlds N A x0 = some res) : Ct l mX12_worlds 0 0 0 A [va_rf x0] (gi res) := Ct.of (lv := [(0, va_rf x0)]) (ls := [some (va_rf x0)]) (by decide) (by simp [lv_args, g_cat_rf, cat_i, cat_l]) rfl (by simp [g_cat_rf, cat_i, cat_l]) (fun G => (t_X12_worlds_0 N A x0 res h))
abbrev mX12_layWorld : gM := gMk yX12_layWorld cX12_layWorld 3 none
def f_X12_layWorld_2 (N : Nat) : Nat → hP → Option Nat → Int32 → Int32 → Option (Unit × hP)
  | 0, _, _, _, _ => none
  | n + 1, A, x0, x1, x2 => (oR A x0 11 5).bind fun v1 => (oA A v1 0 (3 : Int32)).bind fun v2 => if v2 ≤ x2 then (some ((), A)) else ((oR A x0 11 17).bind fun v3 => (oS A v3 0 x2 ((x1 >>> (((3 : Int32) * x2) &&& 31)) &&& (7 : Int32))).bind fun A4 => f_X12_layWorld_2 N n A4 x0 x1 (x2 + (1 : Int32)))
set_option maxRecDepth 20000 in
set_option maxHeartbeats 4000000 in
theorem t_X12_layWorld_2 {l : Launch} {G : gS} (N : Nat) : ∀ (n : Nat) (A : hP) (x0 : Option Nat) (x1 : Int32) (x2 : Int32) (res : Unit × hP), f_X12_layWorld_2 N n A x0 x1 x2 = some res → AW l mX12_layWorld (g_rm 0 0 0) G (g_Qf G (gu res) 0 0) A 0 0 2 [some (va_rf x0), some (.int x1), some (.int x2)] [] := by
  intro n
  induction n with
  | zero => intro A x0 x1 x2 res h; cases h
  | succ n ih =>
    intro A x0 x1 x2 res h
    rw [f_X12_layWorld_2] at h
    refine AW_iload_n dX12_layWorld_2 rfl ?_
    refine AW_aload_n dX12_layWorld_3 rfl ?_
    refine AW_getR (ci := 11) (k0 := 5) (C := RX12) (T := TX12) (N := 31) dX12_layWorld_4 rfl (gT_u tU_X12) (by decide) (List.mem_cons_of_mem _ tF_X12_19) h (fun v1 _ h => ?_)
    refine AW_iconst (v := 3) dX12_layWorld_7 (by decide) ?_
    refine AW_iald dX12_layWorld_8 h (fun v2 _ h => ?_)
    refine AW_icmp_ge (tgt := 32) dX12_layWorld_9 (by decide) h (fun _ h => ?_) (fun _ h => ?_)
    · exact AW_vret dX12_layWorld_32 rfl ⟨Nat.zero_le _, Nat.zero_le _⟩ h
    · refine AW_aload_n dX12_layWorld_12 rfl ?_
      refine AW_getR (ci := 11) (k0 := 17) (C := RX12) (T := TX12) (N := 31) dX12_layWorld_13 rfl (gT_u tU_X12) (by decide) (List.mem_cons_of_mem _ tF_X12_28) h (fun v3 _ h => ?_)
      refine AW_iload_n dX12_layWorld_16 rfl ?_
      refine AW_iload_n dX12_layWorld_17 rfl ?_
      refine AW_iconst (v := 3) dX12_layWorld_18 (by decide) ?_
      refine AW_iload_n dX12_layWorld_19 rfl ?_
      refine AW_imul dX12_layWorld_20 ?_
      refine AW_ishr dX12_layWorld_21 ?_
      refine AW_bipush (v := 7) dX12_layWorld_22 (by decide) ?_
      refine AW_iand dX12_layWorld_24 ?_
      refine AW_iast dX12_layWorld_25 h (fun A4 _ h => ?_)
      refine AW_iinc (v := 1) (ls' := [some (va_rf x0), some (.int x1), some (.int (x2 + (1 : Int32)))]) dX12_layWorld_26 rfl (c1_i rfl) (by decide) (by decide) rfl ?_
      refine AW_goto (tgt := 2) dX12_layWorld_29 (by decide) ?_
      exact (ih _ _ _ _ _ h)
def f_X12_layWorld_0 (N : Nat) (A : hP) (x0 : Option Nat) (x1 : Int32) : Option (Unit × hP) := f_X12_layWorld_2 N N A x0 x1 (0 : Int32)
set_option maxRecDepth 20000 in
set_option maxHeartbeats 4000000 in
theorem t_X12_layWorld_0 {l : Launch} {G : gS} (N : Nat) (A : hP) (x0 : Option Nat) (x1 : Int32) (res : Unit × hP) (h : f_X12_layWorld_0 N A x0 x1 = some res) : AW l mX12_layWorld (g_rm 0 0 0) G (g_Qf G (gu res) 0 0) A 0 0 0 [some (va_rf x0), some (.int x1), none] [] := by
  unfold f_X12_layWorld_0 at h
  refine AW_iconst (v := 0) dX12_layWorld_0 (by decide) ?_
  refine AW_istore_n (ls' := [some (va_rf x0), some (.int x1), some (.int (0 : Int32))]) dX12_layWorld_1 (c1_i rfl) (by decide) rfl ?_
  exact (t_X12_layWorld_2 N N _ _ _ _ _ h)
def f_X12_layWorld (N : Nat) (A : hP) (x0 : Option Nat) (x1 : Int32) : Option (Unit × hP) := f_X12_layWorld_0 N A x0 x1
set_option maxRecDepth 20000 in
theorem c_X12_layWorld {l : Launch} (N : Nat) (A : hP) (x0 : Option Nat) (x1 : Int32) (res : Unit × hP) (h : f_X12_layWorld N A x0 x1 = some res) : Ct l mX12_layWorld 0 0 0 A [va_rf x0, .int x1] (gu res) := Ct.of (lv := [(0, va_rf x0), (1, .int x1)]) (ls := [some (va_rf x0), some (.int x1), none]) (by decide) (by simp [lv_args, g_cat_rf, cat_i, cat_l]) rfl (by simp [g_cat_rf, cat_i, cat_l]) (fun G => (t_X12_layWorld_0 N A x0 x1 res h))
abbrev mX12_wrongDays : gM := gMk yX12_wrongDays cX12_wrongDays 5 (some .int)
def f_X12_wrongDays_50 (N : Nat) (r4 : hP → Option Nat → Int32 → Int32 → Int32 → Option (Int32 × hP)) (A : hP) (x0 : Option Nat) (x1 : Int32) (x3 : Int32) (s0 : Int32) (s1 : Int32) : Option (Int32 × hP) := r4 A x0 x1 (s0 ||| s1) (x3 + (1 : Int32))
set_option maxRecDepth 20000 in
set_option maxHeartbeats 4000000 in
theorem t_X12_wrongDays_50 {l : Launch} {G : gS} (N : Nat) (r4 : hP → Option Nat → Int32 → Int32 → Int32 → Option (Int32 × hP)) (hr4 : ∀ (A : hP) (x0 : Option Nat) (x1 : Int32) (x2 : Int32) (x3 : Int32) (res : Int32 × hP), r4 A x0 x1 x2 x3 = some res → AW l mX12_wrongDays (g_rm 4 0 0) G (g_Qf G (gi res) 0 0) A 0 0 4 [some (va_rf x0), some (.int x1), some (.int x2), some (.int x3), none] []) (A : hP) (x0 : Option Nat) (x1 : Int32) (x3 : Int32) (s0 : Int32) (s1 : Int32) (res : Int32 × hP) (h : f_X12_wrongDays_50 N r4 A x0 x1 x3 s0 s1 = some res) : AW l mX12_wrongDays (g_rm 4 0 0) G (g_Qf G (gi res) 0 0) A 0 0 50 [some (va_rf x0), some (.int x1), none, some (.int x3), none] [.int s1, .int s0] := by
  unfold f_X12_wrongDays_50 at h
  refine AW_ior dX12_wrongDays_50 ?_
  refine AW_istore_n (ls' := [some (va_rf x0), some (.int x1), some (.int (s0 ||| s1)), some (.int x3), none]) dX12_wrongDays_51 (c1_i rfl) (by decide) rfl ?_
  refine AW_iinc (v := 1) (ls' := [some (va_rf x0), some (.int x1), some (.int (s0 ||| s1)), some (.int (x3 + (1 : Int32))), none]) dX12_wrongDays_52 rfl (c1_i rfl) (by decide) (by decide) rfl ?_
  refine AW_goto (tgt := 4) dX12_wrongDays_55 (by decide) ?_
  exact (hr4 _ _ _ _ _ _ h)
def f_X12_wrongDays_49 (N : Nat) (r4 : hP → Option Nat → Int32 → Int32 → Int32 → Option (Int32 × hP)) (A : hP) (x0 : Option Nat) (x1 : Int32) (x3 : Int32) (s0 : Int32) : Option (Int32 × hP) := f_X12_wrongDays_50 N r4 A x0 x1 x3 s0 (0 : Int32)
set_option maxRecDepth 20000 in
set_option maxHeartbeats 4000000 in
theorem t_X12_wrongDays_49 {l : Launch} {G : gS} (N : Nat) (r4 : hP → Option Nat → Int32 → Int32 → Int32 → Option (Int32 × hP)) (hr4 : ∀ (A : hP) (x0 : Option Nat) (x1 : Int32) (x2 : Int32) (x3 : Int32) (res : Int32 × hP), r4 A x0 x1 x2 x3 = some res → AW l mX12_wrongDays (g_rm 4 0 0) G (g_Qf G (gi res) 0 0) A 0 0 4 [some (va_rf x0), some (.int x1), some (.int x2), some (.int x3), none] []) (A : hP) (x0 : Option Nat) (x1 : Int32) (x3 : Int32) (s0 : Int32) (res : Int32 × hP) (h : f_X12_wrongDays_49 N r4 A x0 x1 x3 s0 = some res) : AW l mX12_wrongDays (g_rm 4 0 0) G (g_Qf G (gi res) 0 0) A 0 0 49 [some (va_rf x0), some (.int x1), none, some (.int x3), none] [.int s0] := by
  unfold f_X12_wrongDays_49 at h
  refine AW_iconst (v := 0) dX12_wrongDays_49 (by decide) ?_
  exact (t_X12_wrongDays_50 N r4 hr4 _ _ _ _ _ _ _ h)
def f_X12_wrongDays_4 (N : Nat) : Nat → hP → Option Nat → Int32 → Int32 → Int32 → Option (Int32 × hP)
  | 0, _, _, _, _, _ => none
  | n + 1, A, x0, x1, x2, x3 => (oR A x0 11 5).bind fun v1 => (oA A v1 0 (4 : Int32)).bind fun v2 => if v2 ≤ x3 then (some (x2, A)) else ((oR A x0 11 4).bind fun v3 => (oA A v3 0 (((40 : Int32) * x1) + x3)).bind fun v4 => if v4 < (0) then (f_X12_wrongDays_49 N (f_X12_wrongDays_4 N n) A x0 x1 x3 x2) else ((oCk A x0 11).bind fun _ => (f_X12_shows N A x0 x3).bind fun q5 => if v4 = q5.1 then (f_X12_wrongDays_49 N (f_X12_wrongDays_4 N n) q5.2 x0 x1 x3 x2) else (f_X12_wrongDays_50 N (f_X12_wrongDays_4 N n) q5.2 x0 x1 x3 x2 ((1 : Int32) <<< (x3 &&& 31)))))
set_option maxRecDepth 20000 in
set_option maxHeartbeats 4000000 in
theorem t_X12_wrongDays_4 {l : Launch} {G : gS} (N : Nat) : ∀ (n : Nat) (A : hP) (x0 : Option Nat) (x1 : Int32) (x2 : Int32) (x3 : Int32) (res : Int32 × hP), f_X12_wrongDays_4 N n A x0 x1 x2 x3 = some res → AW l mX12_wrongDays (g_rm 4 0 0) G (g_Qf G (gi res) 0 0) A 0 0 4 [some (va_rf x0), some (.int x1), some (.int x2), some (.int x3), none] [] := by
  intro n
  induction n with
  | zero => intro A x0 x1 x2 x3 res h; cases h
  | succ n ih =>
    intro A x0 x1 x2 x3 res h
    rw [f_X12_wrongDays_4] at h
    refine AW_iload_n dX12_wrongDays_4 rfl ?_
    refine AW_aload_n dX12_wrongDays_5 rfl ?_
    refine AW_getR (ci := 11) (k0 := 5) (C := RX12) (T := TX12) (N := 31) dX12_wrongDays_6 rfl (gT_u tU_X12) (by decide) (List.mem_cons_of_mem _ tF_X12_19) h (fun v1 _ h => ?_)
    refine AW_iconst (v := 4) dX12_wrongDays_9 (by decide) ?_
    refine AW_iald dX12_wrongDays_10 h (fun v2 _ h => ?_)
    refine AW_icmp_ge (tgt := 58) dX12_wrongDays_11 (by decide) h (fun _ h => ?_) (fun _ h => ?_)
    · refine AW_iload_n dX12_wrongDays_58 rfl ?_
      exact AW_iret dX12_wrongDays_59 rfl ⟨Nat.zero_le _, Nat.zero_le _⟩ h
    · refine AW_aload_n dX12_wrongDays_14 rfl ?_
      refine AW_getR (ci := 11) (k0 := 4) (C := RX12) (T := TX12) (N := 31) dX12_wrongDays_15 rfl (gT_u tU_X12) (by decide) (List.mem_cons_of_mem _ tF_X12_16) h (fun v3 _ h => ?_)
      refine AW_bipush (v := 40) dX12_wrongDays_18 (by decide) ?_
      refine AW_iload_n dX12_wrongDays_20 rfl ?_
      refine AW_imul dX12_wrongDays_21 ?_
      refine AW_iload_n dX12_wrongDays_22 rfl ?_
      refine AW_iadd dX12_wrongDays_23 ?_
      refine AW_iald dX12_wrongDays_24 h (fun v4 _ h => ?_)
      refine AW_istore (ls' := [some (va_rf x0), some (.int x1), some (.int x2), some (.int x3), some (.int v4)]) dX12_wrongDays_25 (c1_i rfl) (by decide) rfl ?_
      refine AW_iload_n dX12_wrongDays_27 rfl ?_
      refine AW_iload dX12_wrongDays_28 rfl ?_
      refine AW_if_lt (tgt := 49) dX12_wrongDays_30 (by decide) h (fun _ h => ?_) (fun _ h => ?_)
      · exact AW_fewer (fw_k (fw_k (fw_d (fw_k (fw_d fw_n))))) (t_X12_wrongDays_49 N (f_X12_wrongDays_4 N n) ih _ _ _ _ _ _ h)
      · refine AW_iload dX12_wrongDays_33 rfl ?_
        refine AW_aload_n dX12_wrongDays_35 rfl ?_
        refine AW_iload_n dX12_wrongDays_36 rfl ?_
        refine AW_callVi (y := yX12_shows) (cc := cX12_shows) (n := 5) (d := 3) (mc := 0) (ms := 0) (np := 1) (ret := (some .int)) (As := [.int x3]) (st := [.int v4, .int x2]) (ci := 11) dX12_wrongDays_37 gT_s rfl tM_X12_206 tI_X12_shows selp_X12_shows tIni_X12 tY_X12_shows (by decide +kernel) ⟨by decide, by decide⟩ ⟨by decide, by decide⟩ (Nat.le_of_ble_eq_true rfl) rfl h (fun q hq => c_X12_shows N _ _ _ q hq) (fun q5 _ h => ?_)
        refine AW_icmp_eq (tgt := 49) dX12_wrongDays_40 (by decide) h (fun _ h => ?_) (fun _ h => ?_)
        · exact AW_fewer (fw_k (fw_k (fw_d (fw_k (fw_d fw_n))))) (t_X12_wrongDays_49 N (f_X12_wrongDays_4 N n) ih _ _ _ _ _ _ h)
        · refine AW_iconst (v := 1) dX12_wrongDays_43 (by decide) ?_
          refine AW_iload_n dX12_wrongDays_44 rfl ?_
          refine AW_ishl dX12_wrongDays_45 ?_
          refine AW_goto (tgt := 50) dX12_wrongDays_46 (by decide) ?_
          exact AW_fewer (fw_k (fw_k (fw_d (fw_k (fw_d fw_n))))) (t_X12_wrongDays_50 N (f_X12_wrongDays_4 N n) ih _ _ _ _ _ _ _ h)
def f_X12_wrongDays_0 (N : Nat) (A : hP) (x0 : Option Nat) (x1 : Int32) : Option (Int32 × hP) := f_X12_wrongDays_4 N N A x0 x1 (0 : Int32) (0 : Int32)
set_option maxRecDepth 20000 in
set_option maxHeartbeats 4000000 in
theorem t_X12_wrongDays_0 {l : Launch} {G : gS} (N : Nat) (A : hP) (x0 : Option Nat) (x1 : Int32) (res : Int32 × hP) (h : f_X12_wrongDays_0 N A x0 x1 = some res) : AW l mX12_wrongDays (g_rm 4 0 0) G (g_Qf G (gi res) 0 0) A 0 0 0 [some (va_rf x0), some (.int x1), none, none, none] [] := by
  unfold f_X12_wrongDays_0 at h
  refine AW_iconst (v := 0) dX12_wrongDays_0 (by decide) ?_
  refine AW_istore_n (ls' := [some (va_rf x0), some (.int x1), some (.int (0 : Int32)), none, none]) dX12_wrongDays_1 (c1_i rfl) (by decide) rfl ?_
  refine AW_iconst (v := 0) dX12_wrongDays_2 (by decide) ?_
  refine AW_istore_n (ls' := [some (va_rf x0), some (.int x1), some (.int (0 : Int32)), some (.int (0 : Int32)), none]) dX12_wrongDays_3 (c1_i rfl) (by decide) rfl ?_
  exact (t_X12_wrongDays_4 N N _ _ _ _ _ _ h)
def f_X12_wrongDays (N : Nat) (A : hP) (x0 : Option Nat) (x1 : Int32) : Option (Int32 × hP) := f_X12_wrongDays_0 N A x0 x1
set_option maxRecDepth 20000 in
theorem c_X12_wrongDays {l : Launch} (N : Nat) (A : hP) (x0 : Option Nat) (x1 : Int32) (res : Int32 × hP) (h : f_X12_wrongDays N A x0 x1 = some res) : Ct l mX12_wrongDays 4 0 0 A [va_rf x0, .int x1] (gi res) := Ct.of (lv := [(0, va_rf x0), (1, .int x1)]) (ls := [some (va_rf x0), some (.int x1), none, none, none]) (by decide) (by simp [lv_args, g_cat_rf, cat_i, cat_l]) rfl (by simp [g_cat_rf, cat_i, cat_l]) (fun G => (t_X12_wrongDays_0 N A x0 x1 res h))
abbrev mX12_fits : gM := gMk yX12_fits cX12_fits 7 (some .int)
def f_X12_fits_107 (N : Nat) (r63 : hP → Option Nat → Int32 → Int32 → Int32 → Int32 → Int32 → Option (Int32 × hP)) (A : hP) (x0 : Option Nat) (x1 : Int32) (x2 : Int32) (x3 : Int32) (x6 : Int32) (s0 : Int32) (s1 : Int32) : Option (Int32 × hP) := r63 A x0 x1 x2 x3 (s0 + s1) (x6 + (1 : Int32))
set_option maxRecDepth 20000 in
set_option maxHeartbeats 4000000 in
theorem t_X12_fits_107 {l : Launch} {G : gS} (N : Nat) (r63 : hP → Option Nat → Int32 → Int32 → Int32 → Int32 → Int32 → Option (Int32 × hP)) (hr63 : ∀ (A : hP) (x0 : Option Nat) (x1 : Int32) (x2 : Int32) (x3 : Int32) (x5 : Int32) (x6 : Int32) (res : Int32 × hP), r63 A x0 x1 x2 x3 x5 x6 = some res → AW l mX12_fits (g_rm 5 0 0) G (g_Qf G (gi res) 0 0) A 0 0 63 [some (va_rf x0), some (.int x1), some (.int x2), some (.int x3), none, some (.int x5), some (.int x6)] []) (A : hP) (x0 : Option Nat) (x1 : Int32) (x2 : Int32) (x3 : Int32) (x6 : Int32) (s0 : Int32) (s1 : Int32) (res : Int32 × hP) (h : f_X12_fits_107 N r63 A x0 x1 x2 x3 x6 s0 s1 = some res) : AW l mX12_fits (g_rm 5 0 0) G (g_Qf G (gi res) 0 0) A 0 0 107 [some (va_rf x0), some (.int x1), some (.int x2), some (.int x3), none, none, some (.int x6)] [.int s1, .int s0] := by
  unfold f_X12_fits_107 at h
  refine AW_iadd dX12_fits_107 ?_
  refine AW_istore (ls' := [some (va_rf x0), some (.int x1), some (.int x2), some (.int x3), none, some (.int (s0 + s1)), some (.int x6)]) dX12_fits_108 (c1_n rfl) (by decide) rfl ?_
  refine AW_iinc (v := 1) (ls' := [some (va_rf x0), some (.int x1), some (.int x2), some (.int x3), none, some (.int (s0 + s1)), some (.int (x6 + (1 : Int32)))]) dX12_fits_110 rfl (c1_i rfl) (by decide) (by decide) rfl ?_
  refine AW_goto (tgt := 63) dX12_fits_113 (by decide) ?_
  exact (hr63 _ _ _ _ _ _ _ _ h)
def f_X12_fits_106 (N : Nat) (r63 : hP → Option Nat → Int32 → Int32 → Int32 → Int32 → Int32 → Option (Int32 × hP)) (A : hP) (x0 : Option Nat) (x1 : Int32) (x2 : Int32) (x3 : Int32) (x6 : Int32) (s0 : Int32) : Option (Int32 × hP) := f_X12_fits_107 N r63 A x0 x1 x2 x3 x6 s0 (0 : Int32)
set_option maxRecDepth 20000 in
set_option maxHeartbeats 4000000 in
theorem t_X12_fits_106 {l : Launch} {G : gS} (N : Nat) (r63 : hP → Option Nat → Int32 → Int32 → Int32 → Int32 → Int32 → Option (Int32 × hP)) (hr63 : ∀ (A : hP) (x0 : Option Nat) (x1 : Int32) (x2 : Int32) (x3 : Int32) (x5 : Int32) (x6 : Int32) (res : Int32 × hP), r63 A x0 x1 x2 x3 x5 x6 = some res → AW l mX12_fits (g_rm 5 0 0) G (g_Qf G (gi res) 0 0) A 0 0 63 [some (va_rf x0), some (.int x1), some (.int x2), some (.int x3), none, some (.int x5), some (.int x6)] []) (A : hP) (x0 : Option Nat) (x1 : Int32) (x2 : Int32) (x3 : Int32) (x6 : Int32) (s0 : Int32) (res : Int32 × hP) (h : f_X12_fits_106 N r63 A x0 x1 x2 x3 x6 s0 = some res) : AW l mX12_fits (g_rm 5 0 0) G (g_Qf G (gi res) 0 0) A 0 0 106 [some (va_rf x0), some (.int x1), some (.int x2), some (.int x3), none, none, some (.int x6)] [.int s0] := by
  unfold f_X12_fits_106 at h
  refine AW_iconst (v := 0) dX12_fits_106 (by decide) ?_
  exact (t_X12_fits_107 N r63 hr63 _ _ _ _ _ _ _ _ _ h)
def f_X12_fits_94 (N : Nat) (r63 : hP → Option Nat → Int32 → Int32 → Int32 → Int32 → Int32 → Option (Int32 × hP)) (A : hP) (x0 : Option Nat) (x1 : Int32) (x2 : Int32) (x3 : Int32) (x6 : Int32) (s0 : Int32) : Option (Int32 × hP) := (oCk A x0 11).bind fun _ => (f_X12_wrongDays N A x0 x1).bind fun q1 => if q1.1 = (0) then (f_X12_fits_107 N r63 q1.2 x0 x1 x2 x3 x6 s0 (1 : Int32)) else (f_X12_fits_106 N r63 q1.2 x0 x1 x2 x3 x6 s0)
set_option maxRecDepth 20000 in
set_option maxHeartbeats 4000000 in
theorem t_X12_fits_94 {l : Launch} {G : gS} (N : Nat) (r63 : hP → Option Nat → Int32 → Int32 → Int32 → Int32 → Int32 → Option (Int32 × hP)) (hr63 : ∀ (A : hP) (x0 : Option Nat) (x1 : Int32) (x2 : Int32) (x3 : Int32) (x5 : Int32) (x6 : Int32) (res : Int32 × hP), r63 A x0 x1 x2 x3 x5 x6 = some res → AW l mX12_fits (g_rm 5 0 0) G (g_Qf G (gi res) 0 0) A 0 0 63 [some (va_rf x0), some (.int x1), some (.int x2), some (.int x3), none, some (.int x5), some (.int x6)] []) (A : hP) (x0 : Option Nat) (x1 : Int32) (x2 : Int32) (x3 : Int32) (x6 : Int32) (s0 : Int32) (res : Int32 × hP) (h : f_X12_fits_94 N r63 A x0 x1 x2 x3 x6 s0 = some res) : AW l mX12_fits (g_rm 5 0 0) G (g_Qf G (gi res) 0 0) A 0 0 94 [some (va_rf x0), some (.int x1), some (.int x2), some (.int x3), none, none, some (.int x6)] [.int s0] := by
  unfold f_X12_fits_94 at h
  refine AW_aload_n dX12_fits_94 rfl ?_
  refine AW_iload_n dX12_fits_95 rfl ?_
  refine AW_callVi (y := yX12_wrongDays) (cc := cX12_wrongDays) (n := 5) (d := 4) (mc := 0) (ms := 0) (np := 1) (ret := (some .int)) (As := [.int x1]) (st := [.int s0]) (ci := 11) dX12_fits_96 gT_s rfl tM_X12_231 tI_X12_wrongDays selp_X12_wrongDays tIni_X12 tY_X12_wrongDays (by decide +kernel) ⟨by decide, by decide⟩ ⟨by decide, by decide⟩ (Nat.le_of_ble_eq_true rfl) rfl h (fun q hq => c_X12_wrongDays N _ _ _ q hq) (fun q1 _ h => ?_)
  refine AW_if_ne (tgt := 106) dX12_fits_99 (by decide) h (fun _ h => ?_) (fun _ h => ?_)
  · exact (t_X12_fits_106 N r63 hr63 _ _ _ _ _ _ _ _ h)
  · refine AW_iconst (v := 1) dX12_fits_102 (by decide) ?_
    refine AW_goto (tgt := 107) dX12_fits_103 (by decide) ?_
    exact (t_X12_fits_107 N r63 hr63 _ _ _ _ _ _ _ _ _ h)
def f_X12_fits_63 (N : Nat) : Nat → hP → Option Nat → Int32 → Int32 → Int32 → Int32 → Int32 → Option (Int32 × hP)
  | 0, _, _, _, _, _, _, _ => none
  | n + 1, A, x0, x1, x2, x3, x5, x6 => (oCk A x0 11).bind fun _ => (f_X12_worlds N A x0).bind fun q2 => if q2.1 ≤ x6 then (some (x5, q2.2)) else ((oCk q2.2 x0 11).bind fun _ => (f_X12_layWorld N q2.2 x0 x6).bind fun q3 => if x2 < (0) then (f_X12_fits_94 N (f_X12_fits_63 N n) q3.2 x0 x1 x2 x3 x6 x5) else ((oR q3.2 x0 11 17).bind fun v4 => (oA q3.2 v4 0 x2).bind fun v5 => if v5 = x3 then (f_X12_fits_94 N (f_X12_fits_63 N n) q3.2 x0 x1 x2 x3 x6 x5) else (f_X12_fits_106 N (f_X12_fits_63 N n) q3.2 x0 x1 x2 x3 x6 x5)))
set_option maxRecDepth 20000 in
set_option maxHeartbeats 4000000 in
theorem t_X12_fits_63 {l : Launch} {G : gS} (N : Nat) : ∀ (n : Nat) (A : hP) (x0 : Option Nat) (x1 : Int32) (x2 : Int32) (x3 : Int32) (x5 : Int32) (x6 : Int32) (res : Int32 × hP), f_X12_fits_63 N n A x0 x1 x2 x3 x5 x6 = some res → AW l mX12_fits (g_rm 5 0 0) G (g_Qf G (gi res) 0 0) A 0 0 63 [some (va_rf x0), some (.int x1), some (.int x2), some (.int x3), none, some (.int x5), some (.int x6)] [] := by
  intro n
  induction n with
  | zero => intro A x0 x1 x2 x3 x5 x6 res h; cases h
  | succ n ih =>
    intro A x0 x1 x2 x3 x5 x6 res h
    rw [f_X12_fits_63] at h
    refine AW_iload dX12_fits_63 rfl ?_
    refine AW_aload_n dX12_fits_65 rfl ?_
    refine AW_callVi (y := yX12_worlds) (cc := cX12_worlds) (n := 1) (d := 0) (mc := 0) (ms := 0) (np := 0) (ret := (some .int)) (As := []) (st := [.int x6]) (ci := 11) dX12_fits_66 gT_s rfl tM_X12_225 tI_X12_worlds selp_X12_worlds tIni_X12 tY_X12_worlds (by decide +kernel) ⟨by decide, by decide⟩ ⟨by decide, by decide⟩ (Nat.le_of_ble_eq_true rfl) rfl h (fun q hq => c_X12_worlds N _ _ q hq) (fun q2 _ h => ?_)
    refine AW_icmp_ge (tgt := 116) dX12_fits_69 (by decide) h (fun _ h => ?_) (fun _ h => ?_)
    · refine AW_iload dX12_fits_116 rfl ?_
      exact AW_iret dX12_fits_118 rfl ⟨Nat.zero_le _, Nat.zero_le _⟩ h
    · refine AW_aload_n dX12_fits_72 rfl ?_
      refine AW_iload dX12_fits_73 rfl ?_
      refine AW_callVu (y := yX12_layWorld) (cc := cX12_layWorld) (n := 3) (d := 0) (mc := 0) (ms := 0) (np := 1) (ret := none) (As := [.int x6]) (st := []) (ci := 11) dX12_fits_75 gT_s rfl tM_X12_228 tI_X12_layWorld selp_X12_layWorld tIni_X12 tY_X12_layWorld (by decide +kernel) ⟨by decide, by decide⟩ ⟨by decide, by decide⟩ (Nat.le_of_ble_eq_true rfl) rfl h (fun q hq => c_X12_layWorld N _ _ _ q hq) (fun q3 _ h => ?_)
      refine AW_iload dX12_fits_78 rfl ?_
      refine AW_iload_n dX12_fits_80 rfl ?_
      refine AW_if_lt (tgt := 94) dX12_fits_81 (by decide) h (fun _ h => ?_) (fun _ h => ?_)
      · exact AW_fewer (fw_k (fw_k (fw_k (fw_k (fw_k (fw_d (fw_k fw_n))))))) (t_X12_fits_94 N (f_X12_fits_63 N n) ih _ _ _ _ _ _ _ _ h)
      · refine AW_aload_n dX12_fits_84 rfl ?_
        refine AW_getR (ci := 11) (k0 := 17) (C := RX12) (T := TX12) (N := 31) dX12_fits_85 rfl (gT_u tU_X12) (by decide) (List.mem_cons_of_mem _ tF_X12_28) h (fun v4 _ h => ?_)
        refine AW_iload_n dX12_fits_88 rfl ?_
        refine AW_iald dX12_fits_89 h (fun v5 _ h => ?_)
        refine AW_iload_n dX12_fits_90 rfl ?_
        refine AW_icmp_ne (tgt := 106) dX12_fits_91 (by decide) h (fun _ h => ?_) (fun _ h => ?_)
        · exact AW_fewer (fw_k (fw_k (fw_k (fw_k (fw_k (fw_d (fw_k fw_n))))))) (t_X12_fits_106 N (f_X12_fits_63 N n) ih _ _ _ _ _ _ _ _ h)
        · exact AW_fewer (fw_k (fw_k (fw_k (fw_k (fw_k (fw_d (fw_k fw_n))))))) (t_X12_fits_94 N (f_X12_fits_63 N n) ih _ _ _ _ _ _ _ _ h)
def f_X12_fits_44 (N : Nat) (A : hP) (x0 : Option Nat) (x1 : Int32) (x2 : Int32) (x3 : Int32) (s0 : Option Nat) (s1 : Int32) (s2 : Int32) : Option (Int32 × hP) := (oCk A s0 11).bind fun _ => (f_X12_barred N A s0 s1 s2).bind fun q6 => if (0) ≤ q6.1 then (f_X12_fits_63 N N q6.2 x0 x1 x2 x3 (0 : Int32) (0 : Int32)) else (some (q6.1, q6.2))
set_option maxRecDepth 20000 in
set_option maxHeartbeats 4000000 in
theorem t_X12_fits_44 {l : Launch} {G : gS} (N : Nat) (A : hP) (x0 : Option Nat) (x1 : Int32) (x2 : Int32) (x3 : Int32) (s0 : Option Nat) (s1 : Int32) (s2 : Int32) (res : Int32 × hP) (h : f_X12_fits_44 N A x0 x1 x2 x3 s0 s1 s2 = some res) : AW l mX12_fits (g_rm 5 0 0) G (g_Qf G (gi res) 0 0) A 0 0 44 [some (va_rf x0), some (.int x1), some (.int x2), some (.int x3), none, none, none] [.int s2, .int s1, va_rf s0] := by
  unfold f_X12_fits_44 at h
  refine AW_callVi (y := yX12_barred) (cc := cX12_barred) (n := 4) (d := 2) (mc := 0) (ms := 0) (np := 2) (ret := (some .int)) (As := [.int s1, .int s2]) (st := []) (ci := 11) dX12_fits_44 gT_s rfl tM_X12_221 tI_X12_barred selp_X12_barred tIni_X12 tY_X12_barred (by decide +kernel) ⟨by decide, by decide⟩ ⟨by decide, by decide⟩ (Nat.le_of_ble_eq_true rfl) rfl h (fun q hq => c_X12_barred N _ _ _ _ q hq) (fun q6 _ h => ?_)
  refine AW_istore (ls' := [some (va_rf x0), some (.int x1), some (.int x2), some (.int x3), some (.int q6.1), none, none]) dX12_fits_47 (c1_i rfl) (by decide) rfl ?_
  refine AW_iload dX12_fits_49 rfl ?_
  refine AW_if_ge (tgt := 57) dX12_fits_51 (by decide) h (fun _ h => ?_) (fun _ h => ?_)
  · refine AW_iconst (v := 0) dX12_fits_57 (by decide) ?_
    refine AW_istore (ls' := [some (va_rf x0), some (.int x1), some (.int x2), some (.int x3), some (.int q6.1), some (.int (0 : Int32)), none]) dX12_fits_58 (c1_i rfl) (by decide) rfl ?_
    refine AW_iconst (v := 0) dX12_fits_60 (by decide) ?_
    refine AW_istore (ls' := [some (va_rf x0), some (.int x1), some (.int x2), some (.int x3), some (.int q6.1), some (.int (0 : Int32)), some (.int (0 : Int32))]) dX12_fits_61 (c1_i rfl) (by decide) rfl ?_
    exact AW_fewer (fw_k (fw_k (fw_k (fw_k (fw_d (fw_k (fw_k fw_n))))))) (t_X12_fits_63 N N _ _ _ _ _ _ _ _ h)
  · refine AW_iload dX12_fits_54 rfl ?_
    exact AW_iret dX12_fits_56 rfl ⟨Nat.zero_le _, Nat.zero_le _⟩ h
def f_X12_fits_43 (N : Nat) (A : hP) (x0 : Option Nat) (x1 : Int32) (x2 : Int32) (x3 : Int32) (s0 : Option Nat) (s1 : Int32) : Option (Int32 × hP) := f_X12_fits_44 N A x0 x1 x2 x3 s0 s1 (0 : Int32)
set_option maxRecDepth 20000 in
set_option maxHeartbeats 4000000 in
theorem t_X12_fits_43 {l : Launch} {G : gS} (N : Nat) (A : hP) (x0 : Option Nat) (x1 : Int32) (x2 : Int32) (x3 : Int32) (s0 : Option Nat) (s1 : Int32) (res : Int32 × hP) (h : f_X12_fits_43 N A x0 x1 x2 x3 s0 s1 = some res) : AW l mX12_fits (g_rm 5 0 0) G (g_Qf G (gi res) 0 0) A 0 0 43 [some (va_rf x0), some (.int x1), some (.int x2), some (.int x3), none, none, none] [.int s1, va_rf s0] := by
  unfold f_X12_fits_43 at h
  refine AW_iconst (v := 0) dX12_fits_43 (by decide) ?_
  exact (t_X12_fits_44 N _ _ _ _ _ _ _ _ _ h)
def f_X12_fits_0 (N : Nat) (A : hP) (x0 : Option Nat) (x1 : Int32) (x2 : Int32) (x3 : Int32) : Option (Int32 × hP) := (oP A x0 11 0 (.int (0 : Int32))).bind fun A7 => (oR A7 x0 11 5).bind fun v8 => (oA A7 v8 0 (3 : Int32)).bind fun v9 => (f_X12_in N A7 x2.toInt64 (-1 : Int64) ((v9 - (1 : Int32)).toInt64)).bind fun q10 => if q10.1 = (0) then (f_X12_fits_43 N q10.2 x0 x1 x2 x3 x0 x1) else ((f_X12_in N q10.2 x3.toInt64 (0 : Int64) (7 : Int64)).bind fun q11 => if q11.1 = (0) then (f_X12_fits_43 N q11.2 x0 x1 x2 x3 x0 x1) else (f_X12_fits_44 N q11.2 x0 x1 x2 x3 x0 x1 (1 : Int32)))
set_option maxRecDepth 20000 in
set_option maxHeartbeats 4000000 in
theorem t_X12_fits_0 {l : Launch} {G : gS} (N : Nat) (A : hP) (x0 : Option Nat) (x1 : Int32) (x2 : Int32) (x3 : Int32) (res : Int32 × hP) (h : f_X12_fits_0 N A x0 x1 x2 x3 = some res) : AW l mX12_fits (g_rm 5 0 0) G (g_Qf G (gi res) 0 0) A 0 0 0 [some (va_rf x0), some (.int x1), some (.int x2), some (.int x3), none, none, none] [] := by
  unfold f_X12_fits_0 at h
  refine AW_aload_n dX12_fits_0 rfl ?_
  refine AW_iconst (v := 0) dX12_fits_1 (by decide) ?_
  refine AW_put (ci := 11) (k0 := 0) (C := RX12) (T := TX12) (N := 31) (ty0 := tyX12) dX12_fits_2 rfl (gT_u tU_X12) tyX12_ok nmX12 (by decide) (List.mem_cons_of_mem _ tF_X12_47) (Or.inl rfl) rfl rfl h (fun A7 _ h => ?_)
  refine AW_aload_n dX12_fits_5 rfl ?_
  refine AW_iload_n dX12_fits_6 rfl ?_
  refine AW_iload_n dX12_fits_7 rfl ?_
  refine AW_i2l dX12_fits_8 ?_
  refine AW_ldc2 (v := -1) dX12_fits_9 (List.mem_cons_of_mem _ tL_X12_217) ?_
  refine AW_aload_n dX12_fits_12 rfl ?_
  refine AW_getR (ci := 11) (k0 := 5) (C := RX12) (T := TX12) (N := 31) dX12_fits_13 rfl (gT_u tU_X12) (by decide) (List.mem_cons_of_mem _ tF_X12_19) h (fun v8 _ h => ?_)
  refine AW_iconst (v := 3) dX12_fits_16 (by decide) ?_
  refine AW_iald dX12_fits_17 h (fun v9 _ h => ?_)
  refine AW_iconst (v := 1) dX12_fits_18 (by decide) ?_
  refine AW_isub dX12_fits_19 ?_
  refine AW_i2l dX12_fits_20 ?_
  refine AW_callSi (y := yX12_in) (cc := cX12_in) (n := 6) (d := 0) (mc := 0) (ms := 0) (np := 3) (ret := (some .boolean)) (As := [.long x2.toInt64, .long (-1 : Int64), .long ((v9 - (1 : Int32)).toInt64)]) (st := [.int x1, va_rf x0]) dX12_fits_21 gT_s tM_X12_57 tS_X12_in tIni_X12 tY_X12_in (by decide +kernel) ⟨by decide, by decide⟩ ⟨by decide, by decide⟩ (Nat.le_of_ble_eq_true rfl) rfl h (fun q hq => c_X12_in N _ _ _ _ q hq) (fun q10 _ h => ?_)
  refine AW_if_eq (tgt := 43) dX12_fits_24 (by decide) h (fun _ h => ?_) (fun _ h => ?_)
  · exact (t_X12_fits_43 N _ _ _ _ _ _ _ _ h)
  · refine AW_iload_n dX12_fits_27 rfl ?_
    refine AW_i2l dX12_fits_28 ?_
    refine AW_lconst (v := 0) dX12_fits_29 (by decide) ?_
    refine AW_ldc2 (v := 7) dX12_fits_30 (List.mem_cons_of_mem _ tL_X12_55) ?_
    refine AW_callSi (y := yX12_in) (cc := cX12_in) (n := 6) (d := 0) (mc := 0) (ms := 0) (np := 3) (ret := (some .boolean)) (As := [.long x3.toInt64, .long (0 : Int64), .long (7 : Int64)]) (st := [.int x1, va_rf x0]) dX12_fits_33 gT_s tM_X12_57 tS_X12_in tIni_X12 tY_X12_in (by decide +kernel) ⟨by decide, by decide⟩ ⟨by decide, by decide⟩ (Nat.le_of_ble_eq_true rfl) rfl h (fun q hq => c_X12_in N _ _ _ _ q hq) (fun q11 _ h => ?_)
    refine AW_if_eq (tgt := 43) dX12_fits_36 (by decide) h (fun _ h => ?_) (fun _ h => ?_)
    · exact (t_X12_fits_43 N _ _ _ _ _ _ _ _ h)
    · refine AW_iconst (v := 1) dX12_fits_39 (by decide) ?_
      refine AW_goto (tgt := 44) dX12_fits_40 (by decide) ?_
      exact (t_X12_fits_44 N _ _ _ _ _ _ _ _ _ h)
def f_X12_fits (N : Nat) (A : hP) (x0 : Option Nat) (x1 : Int32) (x2 : Int32) (x3 : Int32) : Option (Int32 × hP) := f_X12_fits_0 N A x0 x1 x2 x3
set_option maxRecDepth 20000 in
theorem c_X12_fits {l : Launch} (N : Nat) (A : hP) (x0 : Option Nat) (x1 : Int32) (x2 : Int32) (x3 : Int32) (res : Int32 × hP) (h : f_X12_fits N A x0 x1 x2 x3 = some res) : Ct l mX12_fits 5 0 0 A [va_rf x0, .int x1, .int x2, .int x3] (gi res) := Ct.of (lv := [(0, va_rf x0), (1, .int x1), (2, .int x2), (3, .int x3)]) (ls := [some (va_rf x0), some (.int x1), some (.int x2), some (.int x3), none, none, none]) (by decide) (by simp [lv_args, g_cat_rf, cat_i, cat_l]) rfl (by simp [g_cat_rf, cat_i, cat_l]) (fun G => (t_X12_fits_0 N A x0 x1 x2 x3 res h))
abbrev mX12_oneOf : gM := gMk yX12_oneOf cX12_oneOf 3 (some .int)
def f_X12_oneOf_23 (N : Nat) (r5 : hP → Int32 → Int32 → Int32 → Option (Int32 × hP)) (A : hP) (x0 : Int32) (x2 : Int32) (s0 : Int32) : Option (Int32 × hP) := r5 A x0 s0 (x2 + (1 : Int32))
set_option maxRecDepth 20000 in
set_option maxHeartbeats 4000000 in
theorem t_X12_oneOf_23 {l : Launch} {G : gS} (N : Nat) (r5 : hP → Int32 → Int32 → Int32 → Option (Int32 × hP)) (hr5 : ∀ (A : hP) (x0 : Int32) (x1 : Int32) (x2 : Int32) (res : Int32 × hP), r5 A x0 x1 x2 = some res → AW l mX12_oneOf (g_rm 0 0 0) G (g_Qf G (gi res) 0 0) A 0 0 5 [some (.int x0), some (.int x1), some (.int x2)] []) (A : hP) (x0 : Int32) (x2 : Int32) (s0 : Int32) (res : Int32 × hP) (h : f_X12_oneOf_23 N r5 A x0 x2 s0 = some res) : AW l mX12_oneOf (g_rm 0 0 0) G (g_Qf G (gi res) 0 0) A 0 0 23 [some (.int x0), none, some (.int x2)] [.int s0] := by
  unfold f_X12_oneOf_23 at h
  refine AW_istore_n (ls' := [some (.int x0), some (.int s0), some (.int x2)]) dX12_oneOf_23 (c1_i rfl) (by decide) rfl ?_
  refine AW_iinc (v := 1) (ls' := [some (.int x0), some (.int s0), some (.int (x2 + (1 : Int32)))]) dX12_oneOf_24 rfl (c1_i rfl) (by decide) (by decide) rfl ?_
  refine AW_goto (tgt := 5) dX12_oneOf_27 (by decide) ?_
  exact (hr5 _ _ _ _ _ h)
def f_X12_oneOf_5 (N : Nat) : Nat → hP → Int32 → Int32 → Int32 → Option (Int32 × hP)
  | 0, _, _, _, _ => none
  | n + 1, A, x0, x1, x2 => if (8 : Int32) ≤ x2 then (some (x1, A)) else (if x0 = ((1 : Int32) <<< (x2 &&& 31)) then (f_X12_oneOf_23 N (f_X12_oneOf_5 N n) A x0 x2 x2) else (f_X12_oneOf_23 N (f_X12_oneOf_5 N n) A x0 x2 x1))
set_option maxRecDepth 20000 in
set_option maxHeartbeats 4000000 in
theorem t_X12_oneOf_5 {l : Launch} {G : gS} (N : Nat) : ∀ (n : Nat) (A : hP) (x0 : Int32) (x1 : Int32) (x2 : Int32) (res : Int32 × hP), f_X12_oneOf_5 N n A x0 x1 x2 = some res → AW l mX12_oneOf (g_rm 0 0 0) G (g_Qf G (gi res) 0 0) A 0 0 5 [some (.int x0), some (.int x1), some (.int x2)] [] := by
  intro n
  induction n with
  | zero => intro A x0 x1 x2 res h; cases h
  | succ n ih =>
    intro A x0 x1 x2 res h
    rw [f_X12_oneOf_5] at h
    refine AW_iload_n dX12_oneOf_5 rfl ?_
    refine AW_bipush (v := 8) dX12_oneOf_6 (by decide) ?_
    refine AW_icmp_ge (tgt := 30) dX12_oneOf_8 (by decide) h (fun _ h => ?_) (fun _ h => ?_)
    · refine AW_iload_n dX12_oneOf_30 rfl ?_
      exact AW_iret dX12_oneOf_31 rfl ⟨Nat.zero_le _, Nat.zero_le _⟩ h
    · refine AW_iload_n dX12_oneOf_11 rfl ?_
      refine AW_iconst (v := 1) dX12_oneOf_12 (by decide) ?_
      refine AW_iload_n dX12_oneOf_13 rfl ?_
      refine AW_ishl dX12_oneOf_14 ?_
      refine AW_icmp_ne (tgt := 22) dX12_oneOf_15 (by decide) h (fun _ h => ?_) (fun _ h => ?_)
      · refine AW_iload_n dX12_oneOf_22 rfl ?_
        exact AW_fewer (fw_k (fw_d (fw_k fw_n))) (t_X12_oneOf_23 N (f_X12_oneOf_5 N n) ih _ _ _ _ _ h)
      · refine AW_iload_n dX12_oneOf_18 rfl ?_
        refine AW_goto (tgt := 23) dX12_oneOf_19 (by decide) ?_
        exact AW_fewer (fw_k (fw_d (fw_k fw_n))) (t_X12_oneOf_23 N (f_X12_oneOf_5 N n) ih _ _ _ _ _ h)
def f_X12_oneOf_0 (N : Nat) (A : hP) (x0 : Int32) : Option (Int32 × hP) := f_X12_oneOf_5 N N A x0 (-1000000 : Int32) (0 : Int32)
set_option maxRecDepth 20000 in
set_option maxHeartbeats 4000000 in
theorem t_X12_oneOf_0 {l : Launch} {G : gS} (N : Nat) (A : hP) (x0 : Int32) (res : Int32 × hP) (h : f_X12_oneOf_0 N A x0 = some res) : AW l mX12_oneOf (g_rm 0 0 0) G (g_Qf G (gi res) 0 0) A 0 0 0 [some (.int x0), none, none] [] := by
  unfold f_X12_oneOf_0 at h
  refine AW_ldc (v := -1000000) dX12_oneOf_0 (List.mem_cons_of_mem _ tK_X12_83) ?_
  refine AW_istore_n (ls' := [some (.int x0), some (.int (-1000000 : Int32)), none]) dX12_oneOf_2 (c1_i rfl) (by decide) rfl ?_
  refine AW_iconst (v := 0) dX12_oneOf_3 (by decide) ?_
  refine AW_istore_n (ls' := [some (.int x0), some (.int (-1000000 : Int32)), some (.int (0 : Int32))]) dX12_oneOf_4 (c1_i rfl) (by decide) rfl ?_
  exact (t_X12_oneOf_5 N N _ _ _ _ _ h)
def f_X12_oneOf (N : Nat) (A : hP) (x0 : Int32) : Option (Int32 × hP) := f_X12_oneOf_0 N A x0
set_option maxRecDepth 20000 in
theorem c_X12_oneOf {l : Launch} (N : Nat) (A : hP) (x0 : Int32) (res : Int32 × hP) (h : f_X12_oneOf N A x0 = some res) : Ct l mX12_oneOf 0 0 0 A [.int x0] (gi res) := Ct.of (lv := [(0, .int x0)]) (ls := [some (.int x0), none, none]) (by decide) (by simp [lv_args, g_cat_rf, cat_i, cat_l]) rfl (by simp [g_cat_rf, cat_i, cat_l]) (fun G => (t_X12_oneOf_0 N A x0 res h))
abbrev mX12_sure : gM := gMk yX12_sure cX12_sure 6 (some .int)
def f_X12_sure_65 (N : Nat) (r28 : hP → Option Nat → Int32 → Int32 → Int32 → Int32 → Option (Int32 × hP)) (A : hP) (x0 : Option Nat) (x1 : Int32) (x2 : Int32) (x5 : Int32) (s0 : Int32) (s1 : Int32) : Option (Int32 × hP) := r28 A x0 x1 x2 (s0 ||| s1) (x5 + (1 : Int32))
set_option maxRecDepth 20000 in
set_option maxHeartbeats 4000000 in
theorem t_X12_sure_65 {l : Launch} {G : gS} (N : Nat) (r28 : hP → Option Nat → Int32 → Int32 → Int32 → Int32 → Option (Int32 × hP)) (hr28 : ∀ (A : hP) (x0 : Option Nat) (x1 : Int32) (x2 : Int32) (x4 : Int32) (x5 : Int32) (res : Int32 × hP), r28 A x0 x1 x2 x4 x5 = some res → AW l mX12_sure (g_rm 5 0 0) G (g_Qf G (gi res) 0 0) A 0 0 28 [some (va_rf x0), some (.int x1), some (.int x2), none, some (.int x4), some (.int x5)] []) (A : hP) (x0 : Option Nat) (x1 : Int32) (x2 : Int32) (x5 : Int32) (s0 : Int32) (s1 : Int32) (res : Int32 × hP) (h : f_X12_sure_65 N r28 A x0 x1 x2 x5 s0 s1 = some res) : AW l mX12_sure (g_rm 5 0 0) G (g_Qf G (gi res) 0 0) A 0 0 65 [some (va_rf x0), some (.int x1), some (.int x2), none, none, some (.int x5)] [.int s1, .int s0] := by
  unfold f_X12_sure_65 at h
  refine AW_ior dX12_sure_65 ?_
  refine AW_istore (ls' := [some (va_rf x0), some (.int x1), some (.int x2), none, some (.int (s0 ||| s1)), some (.int x5)]) dX12_sure_66 (c1_n rfl) (by decide) rfl ?_
  refine AW_iinc (v := 1) (ls' := [some (va_rf x0), some (.int x1), some (.int x2), none, some (.int (s0 ||| s1)), some (.int (x5 + (1 : Int32)))]) dX12_sure_68 rfl (c1_i rfl) (by decide) (by decide) rfl ?_
  refine AW_goto (tgt := 28) dX12_sure_71 (by decide) ?_
  exact (hr28 _ _ _ _ _ _ _ h)
def f_X12_sure_28 (N : Nat) : Nat → hP → Option Nat → Int32 → Int32 → Int32 → Int32 → Option (Int32 × hP)
  | 0, _, _, _, _, _, _ => none
  | n + 1, A, x0, x1, x2, x4, x5 => (oCk A x0 11).bind fun _ => (f_X12_worlds N A x0).bind fun q1 => if q1.1 ≤ x5 then ((f_X12_oneOf N q1.2 x4).bind fun q2 => some (q2.1, q2.2)) else ((oCk q1.2 x0 11).bind fun _ => (f_X12_layWorld N q1.2 x0 x5).bind fun q3 => (oCk q3.2 x0 11).bind fun _ => (f_X12_wrongDays N q3.2 x0 x1).bind fun q4 => if q4.1 = (0) then ((oR q4.2 x0 11 17).bind fun v5 => (oA q4.2 v5 0 x2).bind fun v6 => f_X12_sure_65 N (f_X12_sure_28 N n) q4.2 x0 x1 x2 x5 x4 ((1 : Int32) <<< (v6 &&& 31))) else (f_X12_sure_65 N (f_X12_sure_28 N n) q4.2 x0 x1 x2 x5 x4 (0 : Int32)))
set_option maxRecDepth 20000 in
set_option maxHeartbeats 4000000 in
theorem t_X12_sure_28 {l : Launch} {G : gS} (N : Nat) : ∀ (n : Nat) (A : hP) (x0 : Option Nat) (x1 : Int32) (x2 : Int32) (x4 : Int32) (x5 : Int32) (res : Int32 × hP), f_X12_sure_28 N n A x0 x1 x2 x4 x5 = some res → AW l mX12_sure (g_rm 5 0 0) G (g_Qf G (gi res) 0 0) A 0 0 28 [some (va_rf x0), some (.int x1), some (.int x2), none, some (.int x4), some (.int x5)] [] := by
  intro n
  induction n with
  | zero => intro A x0 x1 x2 x4 x5 res h; cases h
  | succ n ih =>
    intro A x0 x1 x2 x4 x5 res h
    rw [f_X12_sure_28] at h
    refine AW_iload dX12_sure_28 rfl ?_
    refine AW_aload_n dX12_sure_30 rfl ?_
    refine AW_callVi (y := yX12_worlds) (cc := cX12_worlds) (n := 1) (d := 0) (mc := 0) (ms := 0) (np := 0) (ret := (some .int)) (As := []) (st := [.int x5]) (ci := 11) dX12_sure_31 gT_s rfl tM_X12_225 tI_X12_worlds selp_X12_worlds tIni_X12 tY_X12_worlds (by decide +kernel) ⟨by decide, by decide⟩ ⟨by decide, by decide⟩ (Nat.le_of_ble_eq_true rfl) rfl h (fun q hq => c_X12_worlds N _ _ q hq) (fun q1 _ h => ?_)
    refine AW_icmp_ge (tgt := 74) dX12_sure_34 (by decide) h (fun _ h => ?_) (fun _ h => ?_)
    · refine AW_iload dX12_sure_74 rfl ?_
      refine AW_callSi (y := yX12_oneOf) (cc := cX12_oneOf) (n := 3) (d := 0) (mc := 0) (ms := 0) (np := 1) (ret := (some .int)) (As := [.int x4]) (st := []) dX12_sure_76 gT_s tM_X12_234 tS_X12_oneOf tIni_X12 tY_X12_oneOf (by decide +kernel) ⟨by decide, by decide⟩ ⟨by decide, by decide⟩ (Nat.le_of_ble_eq_true rfl) rfl h (fun q hq => c_X12_oneOf N _ _ q hq) (fun q2 _ h => ?_)
      exact AW_iret dX12_sure_79 rfl ⟨Nat.zero_le _, Nat.zero_le _⟩ h
    · refine AW_aload_n dX12_sure_37 rfl ?_
      refine AW_iload dX12_sure_38 rfl ?_
      refine AW_callVu (y := yX12_layWorld) (cc := cX12_layWorld) (n := 3) (d := 0) (mc := 0) (ms := 0) (np := 1) (ret := none) (As := [.int x5]) (st := []) (ci := 11) dX12_sure_40 gT_s rfl tM_X12_228 tI_X12_layWorld selp_X12_layWorld tIni_X12 tY_X12_layWorld (by decide +kernel) ⟨by decide, by decide⟩ ⟨by decide, by decide⟩ (Nat.le_of_ble_eq_true rfl) rfl h (fun q hq => c_X12_layWorld N _ _ _ q hq) (fun q3 _ h => ?_)
      refine AW_iload dX12_sure_43 rfl ?_
      refine AW_aload_n dX12_sure_45 rfl ?_
      refine AW_iload_n dX12_sure_46 rfl ?_
      refine AW_callVi (y := yX12_wrongDays) (cc := cX12_wrongDays) (n := 5) (d := 4) (mc := 0) (ms := 0) (np := 1) (ret := (some .int)) (As := [.int x1]) (st := [.int x4]) (ci := 11) dX12_sure_47 gT_s rfl tM_X12_231 tI_X12_wrongDays selp_X12_wrongDays tIni_X12 tY_X12_wrongDays (by decide +kernel) ⟨by decide, by decide⟩ ⟨by decide, by decide⟩ (Nat.le_of_ble_eq_true rfl) rfl h (fun q hq => c_X12_wrongDays N _ _ _ q hq) (fun q4 _ h => ?_)
      refine AW_if_ne (tgt := 64) dX12_sure_50 (by decide) h (fun _ h => ?_) (fun _ h => ?_)
      · refine AW_iconst (v := 0) dX12_sure_64 (by decide) ?_
        exact AW_fewer (fw_k (fw_k (fw_k (fw_k (fw_d (fw_k fw_n)))))) (t_X12_sure_65 N (f_X12_sure_28 N n) ih _ _ _ _ _ _ _ _ h)
      · refine AW_iconst (v := 1) dX12_sure_53 (by decide) ?_
        refine AW_aload_n dX12_sure_54 rfl ?_
        refine AW_getR (ci := 11) (k0 := 17) (C := RX12) (T := TX12) (N := 31) dX12_sure_55 rfl (gT_u tU_X12) (by decide) (List.mem_cons_of_mem _ tF_X12_28) h (fun v5 _ h => ?_)
        refine AW_iload_n dX12_sure_58 rfl ?_
        refine AW_iald dX12_sure_59 h (fun v6 _ h => ?_)
        refine AW_ishl dX12_sure_60 ?_
        refine AW_goto (tgt := 65) dX12_sure_61 (by decide) ?_
        exact AW_fewer (fw_k (fw_k (fw_k (fw_k (fw_d (fw_k fw_n)))))) (t_X12_sure_65 N (f_X12_sure_28 N n) ih _ _ _ _ _ _ _ _ h)
def f_X12_sure_0 (N : Nat) (A : hP) (x0 : Option Nat) (x1 : Int32) (x2 : Int32) : Option (Int32 × hP) := (oP A x0 11 0 (.int (0 : Int32))).bind fun A7 => (oCk A7 x0 11).bind fun _ => (f_X12_isThing N A7 x0 x2).bind fun q8 => (oCk q8.2 x0 11).bind fun _ => (f_X12_barred N q8.2 x0 x1 q8.1).bind fun q9 => if (0) ≤ q9.1 then (f_X12_sure_28 N N q9.2 x0 x1 x2 (0 : Int32) (0 : Int32)) else (some (q9.1, q9.2))
set_option maxRecDepth 20000 in
set_option maxHeartbeats 4000000 in
theorem t_X12_sure_0 {l : Launch} {G : gS} (N : Nat) (A : hP) (x0 : Option Nat) (x1 : Int32) (x2 : Int32) (res : Int32 × hP) (h : f_X12_sure_0 N A x0 x1 x2 = some res) : AW l mX12_sure (g_rm 5 0 0) G (g_Qf G (gi res) 0 0) A 0 0 0 [some (va_rf x0), some (.int x1), some (.int x2), none, none, none] [] := by
  unfold f_X12_sure_0 at h
  refine AW_aload_n dX12_sure_0 rfl ?_
  refine AW_iconst (v := 0) dX12_sure_1 (by decide) ?_
  refine AW_put (ci := 11) (k0 := 0) (C := RX12) (T := TX12) (N := 31) (ty0 := tyX12) dX12_sure_2 rfl (gT_u tU_X12) tyX12_ok nmX12 (by decide) (List.mem_cons_of_mem _ tF_X12_47) (Or.inl rfl) rfl rfl h (fun A7 _ h => ?_)
  refine AW_aload_n dX12_sure_5 rfl ?_
  refine AW_iload_n dX12_sure_6 rfl ?_
  refine AW_aload_n dX12_sure_7 rfl ?_
  refine AW_iload_n dX12_sure_8 rfl ?_
  refine AW_callVi (y := yX12_isThing) (cc := cX12_isThing) (n := 2) (d := 1) (mc := 0) (ms := 0) (np := 1) (ret := (some .boolean)) (As := [.int x2]) (st := [.int x1, va_rf x0]) (ci := 11) dX12_sure_9 gT_s rfl tM_X12_214 tI_X12_isThing selp_X12_isThing tIni_X12 tY_X12_isThing (by decide +kernel) ⟨by decide, by decide⟩ ⟨by decide, by decide⟩ (Nat.le_of_ble_eq_true rfl) rfl h (fun q hq => c_X12_isThing N _ _ _ q hq) (fun q8 _ h => ?_)
  refine AW_callVi (y := yX12_barred) (cc := cX12_barred) (n := 4) (d := 2) (mc := 0) (ms := 0) (np := 2) (ret := (some .int)) (As := [.int x1, .int q8.1]) (st := []) (ci := 11) dX12_sure_12 gT_s rfl tM_X12_221 tI_X12_barred selp_X12_barred tIni_X12 tY_X12_barred (by decide +kernel) ⟨by decide, by decide⟩ ⟨by decide, by decide⟩ (Nat.le_of_ble_eq_true rfl) rfl h (fun q hq => c_X12_barred N _ _ _ _ q hq) (fun q9 _ h => ?_)
  refine AW_istore_n (ls' := [some (va_rf x0), some (.int x1), some (.int x2), some (.int q9.1), none, none]) dX12_sure_15 (c1_i rfl) (by decide) rfl ?_
  refine AW_iload_n dX12_sure_16 rfl ?_
  refine AW_if_ge (tgt := 22) dX12_sure_17 (by decide) h (fun _ h => ?_) (fun _ h => ?_)
  · refine AW_iconst (v := 0) dX12_sure_22 (by decide) ?_
    refine AW_istore (ls' := [some (va_rf x0), some (.int x1), some (.int x2), some (.int q9.1), some (.int (0 : Int32)), none]) dX12_sure_23 (c1_i rfl) (by decide) rfl ?_
    refine AW_iconst (v := 0) dX12_sure_25 (by decide) ?_
    refine AW_istore (ls' := [some (va_rf x0), some (.int x1), some (.int x2), some (.int q9.1), some (.int (0 : Int32)), some (.int (0 : Int32))]) dX12_sure_26 (c1_i rfl) (by decide) rfl ?_
    exact AW_fewer (fw_k (fw_k (fw_k (fw_d (fw_k (fw_k fw_n)))))) (t_X12_sure_28 N N _ _ _ _ _ _ _ h)
  · refine AW_iload_n dX12_sure_20 rfl ?_
    exact AW_iret dX12_sure_21 rfl ⟨Nat.zero_le _, Nat.zero_le _⟩ h
def f_X12_sure (N : Nat) (A : hP) (x0 : Option Nat) (x1 : Int32) (x2 : Int32) : Option (Int32 × hP) := f_X12_sure_0 N A x0 x1 x2
set_option maxRecDepth 20000 in
theorem c_X12_sure {l : Launch} (N : Nat) (A : hP) (x0 : Option Nat) (x1 : Int32) (x2 : Int32) (res : Int32 × hP) (h : f_X12_sure N A x0 x1 x2 = some res) : Ct l mX12_sure 5 0 0 A [va_rf x0, .int x1, .int x2] (gi res) := Ct.of (lv := [(0, va_rf x0), (1, .int x1), (2, .int x2)]) (ls := [some (va_rf x0), some (.int x1), some (.int x2), none, none, none]) (by decide) (by simp [lv_args, g_cat_rf, cat_i, cat_l]) rfl (by simp [g_cat_rf, cat_i, cat_l]) (fun G => (t_X12_sure_0 N A x0 x1 x2 res h))
abbrev mX12_gap : gM := gMk yX12_gap cX12_gap 7 (some .int)
def f_X12_gap_91 (N : Nat) (r32 : hP → Option Nat → Int32 → Int32 → Int32 → Int32 → Int32 → Option (Int32 × hP)) (A : hP) (x0 : Option Nat) (x1 : Int32) (x2 : Int32) (x4 : Int32) (x5 : Int32) (x6 : Int32) : Option (Int32 × hP) := r32 A x0 x1 x2 x4 x5 (x6 + (1 : Int32))
set_option maxRecDepth 20000 in
set_option maxHeartbeats 4000000 in
theorem t_X12_gap_91 {l : Launch} {G : gS} (N : Nat) (r32 : hP → Option Nat → Int32 → Int32 → Int32 → Int32 → Int32 → Option (Int32 × hP)) (hr32 : ∀ (A : hP) (x0 : Option Nat) (x1 : Int32) (x2 : Int32) (x4 : Int32) (x5 : Int32) (x6 : Int32) (res : Int32 × hP), r32 A x0 x1 x2 x4 x5 x6 = some res → AW l mX12_gap (g_rm 5 0 0) G (g_Qf G (gi res) 0 0) A 0 0 32 [some (va_rf x0), some (.int x1), some (.int x2), none, some (.int x4), some (.int x5), some (.int x6)] []) (A : hP) (x0 : Option Nat) (x1 : Int32) (x2 : Int32) (x4 : Int32) (x5 : Int32) (x6 : Int32) (res : Int32 × hP) (h : f_X12_gap_91 N r32 A x0 x1 x2 x4 x5 x6 = some res) : AW l mX12_gap (g_rm 5 0 0) G (g_Qf G (gi res) 0 0) A 0 0 91 [some (va_rf x0), some (.int x1), some (.int x2), none, some (.int x4), some (.int x5), some (.int x6)] [] := by
  unfold f_X12_gap_91 at h
  refine AW_iinc (v := 1) (ls' := [some (va_rf x0), some (.int x1), some (.int x2), none, some (.int x4), some (.int x5), some (.int (x6 + (1 : Int32)))]) dX12_gap_91 rfl (c1_i rfl) (by decide) (by decide) rfl ?_
  refine AW_goto (tgt := 32) dX12_gap_94 (by decide) ?_
  exact (hr32 _ _ _ _ _ _ _ _ h)
def f_X12_gap_82 (N : Nat) (r32 : hP → Option Nat → Int32 → Int32 → Int32 → Int32 → Int32 → Option (Int32 × hP)) (A : hP) (x0 : Option Nat) (x1 : Int32) (x2 : Int32) (x6 : Int32) (s0 : Int32) : Option (Int32 × hP) := (oCk A x0 11).bind fun _ => (f_X12_shows N A x0 x2).bind fun q1 => f_X12_gap_91 N r32 q1.2 x0 x1 x2 q1.1 s0 x6
set_option maxRecDepth 20000 in
set_option maxHeartbeats 4000000 in
theorem t_X12_gap_82 {l : Launch} {G : gS} (N : Nat) (r32 : hP → Option Nat → Int32 → Int32 → Int32 → Int32 → Int32 → Option (Int32 × hP)) (hr32 : ∀ (A : hP) (x0 : Option Nat) (x1 : Int32) (x2 : Int32) (x4 : Int32) (x5 : Int32) (x6 : Int32) (res : Int32 × hP), r32 A x0 x1 x2 x4 x5 x6 = some res → AW l mX12_gap (g_rm 5 0 0) G (g_Qf G (gi res) 0 0) A 0 0 32 [some (va_rf x0), some (.int x1), some (.int x2), none, some (.int x4), some (.int x5), some (.int x6)] []) (A : hP) (x0 : Option Nat) (x1 : Int32) (x2 : Int32) (x6 : Int32) (s0 : Int32) (res : Int32 × hP) (h : f_X12_gap_82 N r32 A x0 x1 x2 x6 s0 = some res) : AW l mX12_gap (g_rm 5 0 0) G (g_Qf G (gi res) 0 0) A 0 0 82 [some (va_rf x0), some (.int x1), some (.int x2), none, none, none, some (.int x6)] [.int s0] := by
  unfold f_X12_gap_82 at h
  refine AW_istore (ls' := [some (va_rf x0), some (.int x1), some (.int x2), none, none, some (.int s0), some (.int x6)]) dX12_gap_82 (c1_n rfl) (by decide) rfl ?_
  refine AW_aload_n dX12_gap_84 rfl ?_
  refine AW_iload_n dX12_gap_85 rfl ?_
  refine AW_callVi (y := yX12_shows) (cc := cX12_shows) (n := 5) (d := 3) (mc := 0) (ms := 0) (np := 1) (ret := (some .int)) (As := [.int x2]) (st := []) (ci := 11) dX12_gap_86 gT_s rfl tM_X12_206 tI_X12_shows selp_X12_shows tIni_X12 tY_X12_shows (by decide +kernel) ⟨by decide, by decide⟩ ⟨by decide, by decide⟩ (Nat.le_of_ble_eq_true rfl) rfl h (fun q hq => c_X12_shows N _ _ _ q hq) (fun q1 _ h => ?_)
  refine AW_istore (ls' := [some (va_rf x0), some (.int x1), some (.int x2), none, some (.int q1.1), some (.int s0), some (.int x6)]) dX12_gap_89 (c1_n rfl) (by decide) rfl ?_
  exact (t_X12_gap_91 N r32 hr32 _ _ _ _ _ _ _ _ h)
def f_X12_gap_77 (N : Nat) (r32 : hP → Option Nat → Int32 → Int32 → Int32 → Int32 → Int32 → Option (Int32 × hP)) (A : hP) (x0 : Option Nat) (x1 : Int32) (x2 : Int32) (x6 : Int32) : Option (Int32 × hP) := f_X12_gap_82 N r32 A x0 x1 x2 x6 (1 : Int32)
set_option maxRecDepth 20000 in
set_option maxHeartbeats 4000000 in
theorem t_X12_gap_77 {l : Launch} {G : gS} (N : Nat) (r32 : hP → Option Nat → Int32 → Int32 → Int32 → Int32 → Int32 → Option (Int32 × hP)) (hr32 : ∀ (A : hP) (x0 : Option Nat) (x1 : Int32) (x2 : Int32) (x4 : Int32) (x5 : Int32) (x6 : Int32) (res : Int32 × hP), r32 A x0 x1 x2 x4 x5 x6 = some res → AW l mX12_gap (g_rm 5 0 0) G (g_Qf G (gi res) 0 0) A 0 0 32 [some (va_rf x0), some (.int x1), some (.int x2), none, some (.int x4), some (.int x5), some (.int x6)] []) (A : hP) (x0 : Option Nat) (x1 : Int32) (x2 : Int32) (x6 : Int32) (res : Int32 × hP) (h : f_X12_gap_77 N r32 A x0 x1 x2 x6 = some res) : AW l mX12_gap (g_rm 5 0 0) G (g_Qf G (gi res) 0 0) A 0 0 77 [some (va_rf x0), some (.int x1), some (.int x2), none, none, none, some (.int x6)] [] := by
  unfold f_X12_gap_77 at h
  refine AW_iconst (v := 1) dX12_gap_77 (by decide) ?_
  refine AW_goto (tgt := 82) dX12_gap_78 (by decide) ?_
  exact (t_X12_gap_82 N r32 hr32 _ _ _ _ _ _ _ h)
def f_X12_gap_81 (N : Nat) (r32 : hP → Option Nat → Int32 → Int32 → Int32 → Int32 → Int32 → Option (Int32 × hP)) (A : hP) (x0 : Option Nat) (x1 : Int32) (x2 : Int32) (x6 : Int32) : Option (Int32 × hP) := f_X12_gap_82 N r32 A x0 x1 x2 x6 (0 : Int32)
set_option maxRecDepth 20000 in
set_option maxHeartbeats 4000000 in
theorem t_X12_gap_81 {l : Launch} {G : gS} (N : Nat) (r32 : hP → Option Nat → Int32 → Int32 → Int32 → Int32 → Int32 → Option (Int32 × hP)) (hr32 : ∀ (A : hP) (x0 : Option Nat) (x1 : Int32) (x2 : Int32) (x4 : Int32) (x5 : Int32) (x6 : Int32) (res : Int32 × hP), r32 A x0 x1 x2 x4 x5 x6 = some res → AW l mX12_gap (g_rm 5 0 0) G (g_Qf G (gi res) 0 0) A 0 0 32 [some (va_rf x0), some (.int x1), some (.int x2), none, some (.int x4), some (.int x5), some (.int x6)] []) (A : hP) (x0 : Option Nat) (x1 : Int32) (x2 : Int32) (x6 : Int32) (res : Int32 × hP) (h : f_X12_gap_81 N r32 A x0 x1 x2 x6 = some res) : AW l mX12_gap (g_rm 5 0 0) G (g_Qf G (gi res) 0 0) A 0 0 81 [some (va_rf x0), some (.int x1), some (.int x2), none, none, none, some (.int x6)] [] := by
  unfold f_X12_gap_81 at h
  refine AW_iconst (v := 0) dX12_gap_81 (by decide) ?_
  exact (t_X12_gap_82 N r32 hr32 _ _ _ _ _ _ _ h)
def f_X12_gap_109 (N : Nat) (A : hP) (s0 : Int32) : Option (Int32 × hP) := some (s0, A)
set_option maxRecDepth 20000 in
set_option maxHeartbeats 4000000 in
theorem t_X12_gap_109 {l : Launch} {G : gS} (N : Nat) (A : hP) (s0 : Int32) (res : Int32 × hP) (h : f_X12_gap_109 N A s0 = some res) : AW l mX12_gap (g_rm 5 0 0) G (g_Qf G (gi res) 0 0) A 0 0 109 [none, none, none, none, none, none, none] [.int s0] := by
  unfold f_X12_gap_109 at h
  exact AW_iret dX12_gap_109 rfl ⟨Nat.zero_le _, Nat.zero_le _⟩ h
def f_X12_gap_32 (N : Nat) : Nat → hP → Option Nat → Int32 → Int32 → Int32 → Int32 → Int32 → Option (Int32 × hP)
  | 0, _, _, _, _, _, _, _ => none
  | n + 1, A, x0, x1, x2, x4, x5, x6 => (oCk A x0 11).bind fun _ => (f_X12_worlds N A x0).bind fun q2 => if q2.1 ≤ x6 then (if x5 = (0) then (f_X12_gap_109 N q2.2 (-1000000 : Int32)) else (f_X12_gap_109 N q2.2 x4)) else ((oCk q2.2 x0 11).bind fun _ => (f_X12_layWorld N q2.2 x0 x6).bind fun q3 => (oCk q3.2 x0 11).bind fun _ => (f_X12_wrongDays N q3.2 x0 x1).bind fun q4 => if q4.1 = (0) then (if x5 = (0) then (f_X12_gap_81 N (f_X12_gap_32 N n) q4.2 x0 x1 x2 x6) else (if x4 = (-1000000 : Int32) then (f_X12_gap_77 N (f_X12_gap_32 N n) q4.2 x0 x1 x2 x6) else ((oCk q4.2 x0 11).bind fun _ => (f_X12_shows N q4.2 x0 x2).bind fun q5 => if x4 = q5.1 then (f_X12_gap_77 N (f_X12_gap_32 N n) q5.2 x0 x1 x2 x6) else (f_X12_gap_81 N (f_X12_gap_32 N n) q5.2 x0 x1 x2 x6)))) else (f_X12_gap_91 N (f_X12_gap_32 N n) q4.2 x0 x1 x2 x4 x5 x6))
set_option maxRecDepth 20000 in
set_option maxHeartbeats 4000000 in
theorem t_X12_gap_32 {l : Launch} {G : gS} (N : Nat) : ∀ (n : Nat) (A : hP) (x0 : Option Nat) (x1 : Int32) (x2 : Int32) (x4 : Int32) (x5 : Int32) (x6 : Int32) (res : Int32 × hP), f_X12_gap_32 N n A x0 x1 x2 x4 x5 x6 = some res → AW l mX12_gap (g_rm 5 0 0) G (g_Qf G (gi res) 0 0) A 0 0 32 [some (va_rf x0), some (.int x1), some (.int x2), none, some (.int x4), some (.int x5), some (.int x6)] [] := by
  intro n
  induction n with
  | zero => intro A x0 x1 x2 x4 x5 x6 res h; cases h
  | succ n ih =>
    intro A x0 x1 x2 x4 x5 x6 res h
    rw [f_X12_gap_32] at h
    refine AW_iload dX12_gap_32 rfl ?_
    refine AW_aload_n dX12_gap_34 rfl ?_
    refine AW_callVi (y := yX12_worlds) (cc := cX12_worlds) (n := 1) (d := 0) (mc := 0) (ms := 0) (np := 0) (ret := (some .int)) (As := []) (st := [.int x6]) (ci := 11) dX12_gap_35 gT_s rfl tM_X12_225 tI_X12_worlds selp_X12_worlds tIni_X12 tY_X12_worlds (by decide +kernel) ⟨by decide, by decide⟩ ⟨by decide, by decide⟩ (Nat.le_of_ble_eq_true rfl) rfl h (fun q hq => c_X12_worlds N _ _ q hq) (fun q2 _ h => ?_)
    refine AW_icmp_ge (tgt := 97) dX12_gap_38 (by decide) h (fun _ h => ?_) (fun _ h => ?_)
    · refine AW_iload dX12_gap_97 rfl ?_
      refine AW_if_eq (tgt := 107) dX12_gap_99 (by decide) h (fun _ h => ?_) (fun _ h => ?_)
      · refine AW_ldc (v := -1000000) dX12_gap_107 (List.mem_cons_of_mem _ tK_X12_83) ?_
        exact AW_fewer (fw_d (fw_d (fw_d (fw_k (fw_d (fw_d (fw_d fw_n))))))) (t_X12_gap_109 N _ _ _ h)
      · refine AW_iload dX12_gap_102 rfl ?_
        refine AW_goto (tgt := 109) dX12_gap_104 (by decide) ?_
        exact AW_fewer (fw_d (fw_d (fw_d (fw_k (fw_d (fw_d (fw_d fw_n))))))) (t_X12_gap_109 N _ _ _ h)
    · refine AW_aload_n dX12_gap_41 rfl ?_
      refine AW_iload dX12_gap_42 rfl ?_
      refine AW_callVu (y := yX12_layWorld) (cc := cX12_layWorld) (n := 3) (d := 0) (mc := 0) (ms := 0) (np := 1) (ret := none) (As := [.int x6]) (st := []) (ci := 11) dX12_gap_44 gT_s rfl tM_X12_228 tI_X12_layWorld selp_X12_layWorld tIni_X12 tY_X12_layWorld (by decide +kernel) ⟨by decide, by decide⟩ ⟨by decide, by decide⟩ (Nat.le_of_ble_eq_true rfl) rfl h (fun q hq => c_X12_layWorld N _ _ _ q hq) (fun q3 _ h => ?_)
      refine AW_aload_n dX12_gap_47 rfl ?_
      refine AW_iload_n dX12_gap_48 rfl ?_
      refine AW_callVi (y := yX12_wrongDays) (cc := cX12_wrongDays) (n := 5) (d := 4) (mc := 0) (ms := 0) (np := 1) (ret := (some .int)) (As := [.int x1]) (st := []) (ci := 11) dX12_gap_49 gT_s rfl tM_X12_231 tI_X12_wrongDays selp_X12_wrongDays tIni_X12 tY_X12_wrongDays (by decide +kernel) ⟨by decide, by decide⟩ ⟨by decide, by decide⟩ (Nat.le_of_ble_eq_true rfl) rfl h (fun q hq => c_X12_wrongDays N _ _ _ q hq) (fun q4 _ h => ?_)
      refine AW_if_ne (tgt := 91) dX12_gap_52 (by decide) h (fun _ h => ?_) (fun _ h => ?_)
      · exact (t_X12_gap_91 N (f_X12_gap_32 N n) ih _ _ _ _ _ _ _ _ h)
      · refine AW_iload dX12_gap_55 rfl ?_
        refine AW_if_eq (tgt := 81) dX12_gap_57 (by decide) h (fun _ h => ?_) (fun _ h => ?_)
        · exact AW_fewer (fw_k (fw_k (fw_k (fw_k (fw_d (fw_d (fw_k fw_n))))))) (t_X12_gap_81 N (f_X12_gap_32 N n) ih _ _ _ _ _ _ h)
        · refine AW_iload dX12_gap_60 rfl ?_
          refine AW_ldc (v := -1000000) dX12_gap_62 (List.mem_cons_of_mem _ tK_X12_83) ?_
          refine AW_icmp_eq (tgt := 77) dX12_gap_64 (by decide) h (fun _ h => ?_) (fun _ h => ?_)
          · exact AW_fewer (fw_k (fw_k (fw_k (fw_k (fw_d (fw_d (fw_k fw_n))))))) (t_X12_gap_77 N (f_X12_gap_32 N n) ih _ _ _ _ _ _ h)
          · refine AW_iload dX12_gap_67 rfl ?_
            refine AW_aload_n dX12_gap_69 rfl ?_
            refine AW_iload_n dX12_gap_70 rfl ?_
            refine AW_callVi (y := yX12_shows) (cc := cX12_shows) (n := 5) (d := 3) (mc := 0) (ms := 0) (np := 1) (ret := (some .int)) (As := [.int x2]) (st := [.int x4]) (ci := 11) dX12_gap_71 gT_s rfl tM_X12_206 tI_X12_shows selp_X12_shows tIni_X12 tY_X12_shows (by decide +kernel) ⟨by decide, by decide⟩ ⟨by decide, by decide⟩ (Nat.le_of_ble_eq_true rfl) rfl h (fun q hq => c_X12_shows N _ _ _ q hq) (fun q5 _ h => ?_)
            refine AW_icmp_ne (tgt := 81) dX12_gap_74 (by decide) h (fun _ h => ?_) (fun _ h => ?_)
            · exact AW_fewer (fw_k (fw_k (fw_k (fw_k (fw_d (fw_d (fw_k fw_n))))))) (t_X12_gap_81 N (f_X12_gap_32 N n) ih _ _ _ _ _ _ h)
            · exact AW_fewer (fw_k (fw_k (fw_k (fw_k (fw_d (fw_d (fw_k fw_n))))))) (t_X12_gap_77 N (f_X12_gap_32 N n) ih _ _ _ _ _ _ h)
def f_X12_gap_0 (N : Nat) (A : hP) (x0 : Option Nat) (x1 : Int32) (x2 : Int32) : Option (Int32 × hP) := (oP A x0 11 0 (.int (0 : Int32))).bind fun A6 => (oCk A6 x0 11).bind fun _ => (f_X12_isDay N A6 x0 x2).bind fun q7 => (oCk q7.2 x0 11).bind fun _ => (f_X12_barred N q7.2 x0 x1 q7.1).bind fun q8 => if (0) ≤ q8.1 then (f_X12_gap_32 N N q8.2 x0 x1 x2 (-1000000 : Int32) (1 : Int32) (0 : Int32)) else (some (q8.1, q8.2))
set_option maxRecDepth 20000 in
set_option maxHeartbeats 4000000 in
theorem t_X12_gap_0 {l : Launch} {G : gS} (N : Nat) (A : hP) (x0 : Option Nat) (x1 : Int32) (x2 : Int32) (res : Int32 × hP) (h : f_X12_gap_0 N A x0 x1 x2 = some res) : AW l mX12_gap (g_rm 5 0 0) G (g_Qf G (gi res) 0 0) A 0 0 0 [some (va_rf x0), some (.int x1), some (.int x2), none, none, none, none] [] := by
  unfold f_X12_gap_0 at h
  refine AW_aload_n dX12_gap_0 rfl ?_
  refine AW_iconst (v := 0) dX12_gap_1 (by decide) ?_
  refine AW_put (ci := 11) (k0 := 0) (C := RX12) (T := TX12) (N := 31) (ty0 := tyX12) dX12_gap_2 rfl (gT_u tU_X12) tyX12_ok nmX12 (by decide) (List.mem_cons_of_mem _ tF_X12_47) (Or.inl rfl) rfl rfl h (fun A6 _ h => ?_)
  refine AW_aload_n dX12_gap_5 rfl ?_
  refine AW_iload_n dX12_gap_6 rfl ?_
  refine AW_aload_n dX12_gap_7 rfl ?_
  refine AW_iload_n dX12_gap_8 rfl ?_
  refine AW_callVi (y := yX12_isDay) (cc := cX12_isDay) (n := 2) (d := 1) (mc := 0) (ms := 0) (np := 1) (ret := (some .boolean)) (As := [.int x2]) (st := [.int x1, va_rf x0]) (ci := 11) dX12_gap_9 gT_s rfl tM_X12_209 tI_X12_isDay selp_X12_isDay tIni_X12 tY_X12_isDay (by decide +kernel) ⟨by decide, by decide⟩ ⟨by decide, by decide⟩ (Nat.le_of_ble_eq_true rfl) rfl h (fun q hq => c_X12_isDay N _ _ _ q hq) (fun q7 _ h => ?_)
  refine AW_callVi (y := yX12_barred) (cc := cX12_barred) (n := 4) (d := 2) (mc := 0) (ms := 0) (np := 2) (ret := (some .int)) (As := [.int x1, .int q7.1]) (st := []) (ci := 11) dX12_gap_12 gT_s rfl tM_X12_221 tI_X12_barred selp_X12_barred tIni_X12 tY_X12_barred (by decide +kernel) ⟨by decide, by decide⟩ ⟨by decide, by decide⟩ (Nat.le_of_ble_eq_true rfl) rfl h (fun q hq => c_X12_barred N _ _ _ _ q hq) (fun q8 _ h => ?_)
  refine AW_istore_n (ls' := [some (va_rf x0), some (.int x1), some (.int x2), some (.int q8.1), none, none, none]) dX12_gap_15 (c1_i rfl) (by decide) rfl ?_
  refine AW_iload_n dX12_gap_16 rfl ?_
  refine AW_if_ge (tgt := 22) dX12_gap_17 (by decide) h (fun _ h => ?_) (fun _ h => ?_)
  · refine AW_ldc (v := -1000000) dX12_gap_22 (List.mem_cons_of_mem _ tK_X12_83) ?_
    refine AW_istore (ls' := [some (va_rf x0), some (.int x1), some (.int x2), some (.int q8.1), some (.int (-1000000 : Int32)), none, none]) dX12_gap_24 (c1_i rfl) (by decide) rfl ?_
    refine AW_iconst (v := 1) dX12_gap_26 (by decide) ?_
    refine AW_istore (ls' := [some (va_rf x0), some (.int x1), some (.int x2), some (.int q8.1), some (.int (-1000000 : Int32)), some (.int (1 : Int32)), none]) dX12_gap_27 (c1_i rfl) (by decide) rfl ?_
    refine AW_iconst (v := 0) dX12_gap_29 (by decide) ?_
    refine AW_istore (ls' := [some (va_rf x0), some (.int x1), some (.int x2), some (.int q8.1), some (.int (-1000000 : Int32)), some (.int (1 : Int32)), some (.int (0 : Int32))]) dX12_gap_30 (c1_i rfl) (by decide) rfl ?_
    exact AW_fewer (fw_k (fw_k (fw_k (fw_d (fw_k (fw_k (fw_k fw_n))))))) (t_X12_gap_32 N N _ _ _ _ _ _ _ _ h)
  · refine AW_iload_n dX12_gap_20 rfl ?_
    exact AW_iret dX12_gap_21 rfl ⟨Nat.zero_le _, Nat.zero_le _⟩ h
def f_X12_gap (N : Nat) (A : hP) (x0 : Option Nat) (x1 : Int32) (x2 : Int32) : Option (Int32 × hP) := f_X12_gap_0 N A x0 x1 x2
set_option maxRecDepth 20000 in
theorem c_X12_gap {l : Launch} (N : Nat) (A : hP) (x0 : Option Nat) (x1 : Int32) (x2 : Int32) (res : Int32 × hP) (h : f_X12_gap N A x0 x1 x2 = some res) : Ct l mX12_gap 5 0 0 A [va_rf x0, .int x1, .int x2] (gi res) := Ct.of (lv := [(0, va_rf x0), (1, .int x1), (2, .int x2)]) (ls := [some (va_rf x0), some (.int x1), some (.int x2), none, none, none, none]) (by decide) (by simp [lv_args, g_cat_rf, cat_i, cat_l]) rfl (by simp [g_cat_rf, cat_i, cat_l]) (fun G => (t_X12_gap_0 N A x0 x1 x2 res h))
abbrev mX12_bits : gM := gMk yX12_bits cX12_bits 3 (some .int)
def f_X12_bits_4 (N : Nat) : Nat → hP → Int32 → Int32 → Int32 → Option (Int32 × hP)
  | 0, _, _, _, _ => none
  | n + 1, A, x0, x1, x2 => if (24 : Int32) ≤ x2 then (some (x1, A)) else (f_X12_bits_4 N n A x0 (x1 + ((x0 >>> (x2 &&& 31)) &&& (1 : Int32))) (x2 + (1 : Int32)))
set_option maxRecDepth 20000 in
set_option maxHeartbeats 4000000 in
theorem t_X12_bits_4 {l : Launch} {G : gS} (N : Nat) : ∀ (n : Nat) (A : hP) (x0 : Int32) (x1 : Int32) (x2 : Int32) (res : Int32 × hP), f_X12_bits_4 N n A x0 x1 x2 = some res → AW l mX12_bits (g_rm 0 0 0) G (g_Qf G (gi res) 0 0) A 0 0 4 [some (.int x0), some (.int x1), some (.int x2)] [] := by
  intro n
  induction n with
  | zero => intro A x0 x1 x2 res h; cases h
  | succ n ih =>
    intro A x0 x1 x2 res h
    rw [f_X12_bits_4] at h
    refine AW_iload_n dX12_bits_4 rfl ?_
    refine AW_bipush (v := 24) dX12_bits_5 (by decide) ?_
    refine AW_icmp_ge (tgt := 24) dX12_bits_7 (by decide) h (fun _ h => ?_) (fun _ h => ?_)
    · refine AW_iload_n dX12_bits_24 rfl ?_
      exact AW_iret dX12_bits_25 rfl ⟨Nat.zero_le _, Nat.zero_le _⟩ h
    · refine AW_iload_n dX12_bits_10 rfl ?_
      refine AW_iload_n dX12_bits_11 rfl ?_
      refine AW_iload_n dX12_bits_12 rfl ?_
      refine AW_ishr dX12_bits_13 ?_
      refine AW_iconst (v := 1) dX12_bits_14 (by decide) ?_
      refine AW_iand dX12_bits_15 ?_
      refine AW_iadd dX12_bits_16 ?_
      refine AW_istore_n (ls' := [some (.int x0), some (.int (x1 + ((x0 >>> (x2 &&& 31)) &&& (1 : Int32)))), some (.int x2)]) dX12_bits_17 (c1_i rfl) (by decide) rfl ?_
      refine AW_iinc (v := 1) (ls' := [some (.int x0), some (.int (x1 + ((x0 >>> (x2 &&& 31)) &&& (1 : Int32)))), some (.int (x2 + (1 : Int32)))]) dX12_bits_18 rfl (c1_i rfl) (by decide) (by decide) rfl ?_
      refine AW_goto (tgt := 4) dX12_bits_21 (by decide) ?_
      exact (ih _ _ _ _ _ h)
def f_X12_bits_0 (N : Nat) (A : hP) (x0 : Int32) : Option (Int32 × hP) := f_X12_bits_4 N N A x0 (0 : Int32) (0 : Int32)
set_option maxRecDepth 20000 in
set_option maxHeartbeats 4000000 in
theorem t_X12_bits_0 {l : Launch} {G : gS} (N : Nat) (A : hP) (x0 : Int32) (res : Int32 × hP) (h : f_X12_bits_0 N A x0 = some res) : AW l mX12_bits (g_rm 0 0 0) G (g_Qf G (gi res) 0 0) A 0 0 0 [some (.int x0), none, none] [] := by
  unfold f_X12_bits_0 at h
  refine AW_iconst (v := 0) dX12_bits_0 (by decide) ?_
  refine AW_istore_n (ls' := [some (.int x0), some (.int (0 : Int32)), none]) dX12_bits_1 (c1_i rfl) (by decide) rfl ?_
  refine AW_iconst (v := 0) dX12_bits_2 (by decide) ?_
  refine AW_istore_n (ls' := [some (.int x0), some (.int (0 : Int32)), some (.int (0 : Int32))]) dX12_bits_3 (c1_i rfl) (by decide) rfl ?_
  exact (t_X12_bits_4 N N _ _ _ _ _ h)
def f_X12_bits (N : Nat) (A : hP) (x0 : Int32) : Option (Int32 × hP) := f_X12_bits_0 N A x0
set_option maxRecDepth 20000 in
theorem c_X12_bits {l : Launch} (N : Nat) (A : hP) (x0 : Int32) (res : Int32 × hP) (h : f_X12_bits N A x0 = some res) : Ct l mX12_bits 0 0 0 A [.int x0] (gi res) := Ct.of (lv := [(0, .int x0)]) (ls := [some (.int x0), none, none]) (by decide) (by simp [lv_args, g_cat_rf, cat_i, cat_l]) rfl (by simp [g_cat_rf, cat_i, cat_l]) (fun G => (t_X12_bits_0 N A x0 res h))
abbrev mX12_wrong : gM := gMk yX12_wrong cX12_wrong 8 (some .int)
def f_X12_wrong_112 (N : Nat) (r31 : hP → Option Nat → Int32 → Int32 → Int32 → Int32 → Option (Int32 × hP)) (A : hP) (x0 : Option Nat) (x1 : Int32) (x2 : Int32) (x5 : Int32) (s0 : Int32) : Option (Int32 × hP) := r31 A x0 x1 x2 s0 (x5 + (1 : Int32))
set_option maxRecDepth 20000 in
set_option maxHeartbeats 4000000 in
theorem t_X12_wrong_112 {l : Launch} {G : gS} (N : Nat) (r31 : hP → Option Nat → Int32 → Int32 → Int32 → Int32 → Option (Int32 × hP)) (hr31 : ∀ (A : hP) (x0 : Option Nat) (x1 : Int32) (x2 : Int32) (x4 : Int32) (x5 : Int32) (res : Int32 × hP), r31 A x0 x1 x2 x4 x5 = some res → AW l mX12_wrong (g_rm 5 0 0) G (g_Qf G (gi res) 0 0) A 0 0 31 [some (va_rf x0), some (.int x1), some (.int x2), none, some (.int x4), some (.int x5), none, none] []) (A : hP) (x0 : Option Nat) (x1 : Int32) (x2 : Int32) (x5 : Int32) (s0 : Int32) (res : Int32 × hP) (h : f_X12_wrong_112 N r31 A x0 x1 x2 x5 s0 = some res) : AW l mX12_wrong (g_rm 5 0 0) G (g_Qf G (gi res) 0 0) A 0 0 112 [some (va_rf x0), some (.int x1), some (.int x2), none, none, some (.int x5), none, none] [.int s0] := by
  unfold f_X12_wrong_112 at h
  refine AW_istore (ls' := [some (va_rf x0), some (.int x1), some (.int x2), none, some (.int s0), some (.int x5), none, none]) dX12_wrong_112 (c1_n rfl) (by decide) rfl ?_
  refine AW_iinc (v := 1) (ls' := [some (va_rf x0), some (.int x1), some (.int x2), none, some (.int s0), some (.int (x5 + (1 : Int32))), none, none]) dX12_wrong_114 rfl (c1_i rfl) (by decide) (by decide) rfl ?_
  refine AW_goto (tgt := 31) dX12_wrong_117 (by decide) ?_
  exact (hr31 _ _ _ _ _ _ _ h)
def f_X12_wrong_98 (N : Nat) (r31 : hP → Option Nat → Int32 → Int32 → Int32 → Int32 → Option (Int32 × hP)) (A : hP) (x0 : Option Nat) (x1 : Int32) (x2 : Int32) (x4 : Int32) (x5 : Int32) (x6 : Int32) (s0 : Int32) : Option (Int32 × hP) := if s0 = (0) then (f_X12_wrong_112 N r31 A x0 x1 x2 x5 x4) else (f_X12_wrong_112 N r31 A x0 x1 x2 x5 x6)
set_option maxRecDepth 20000 in
set_option maxHeartbeats 4000000 in
theorem t_X12_wrong_98 {l : Launch} {G : gS} (N : Nat) (r31 : hP → Option Nat → Int32 → Int32 → Int32 → Int32 → Option (Int32 × hP)) (hr31 : ∀ (A : hP) (x0 : Option Nat) (x1 : Int32) (x2 : Int32) (x4 : Int32) (x5 : Int32) (res : Int32 × hP), r31 A x0 x1 x2 x4 x5 = some res → AW l mX12_wrong (g_rm 5 0 0) G (g_Qf G (gi res) 0 0) A 0 0 31 [some (va_rf x0), some (.int x1), some (.int x2), none, some (.int x4), some (.int x5), none, none] []) (A : hP) (x0 : Option Nat) (x1 : Int32) (x2 : Int32) (x4 : Int32) (x5 : Int32) (x6 : Int32) (s0 : Int32) (res : Int32 × hP) (h : f_X12_wrong_98 N r31 A x0 x1 x2 x4 x5 x6 s0 = some res) : AW l mX12_wrong (g_rm 5 0 0) G (g_Qf G (gi res) 0 0) A 0 0 98 [some (va_rf x0), some (.int x1), some (.int x2), none, some (.int x4), some (.int x5), some (.int x6), none] [.int s0] := by
  unfold f_X12_wrong_98 at h
  refine AW_istore (ls' := [some (va_rf x0), some (.int x1), some (.int x2), none, some (.int x4), some (.int x5), some (.int x6), some (.int s0)]) dX12_wrong_98 (c1_i rfl) (by decide) rfl ?_
  refine AW_iload dX12_wrong_100 rfl ?_
  refine AW_if_eq (tgt := 110) dX12_wrong_102 (by decide) h (fun _ h => ?_) (fun _ h => ?_)
  · refine AW_iload dX12_wrong_110 rfl ?_
    exact AW_fewer (fw_k (fw_k (fw_k (fw_k (fw_d (fw_k (fw_d (fw_d fw_n)))))))) (t_X12_wrong_112 N r31 hr31 _ _ _ _ _ _ _ h)
  · refine AW_iload dX12_wrong_105 rfl ?_
    refine AW_goto (tgt := 112) dX12_wrong_107 (by decide) ?_
    exact AW_fewer (fw_k (fw_k (fw_k (fw_k (fw_d (fw_k (fw_d (fw_d fw_n)))))))) (t_X12_wrong_112 N r31 hr31 _ _ _ _ _ _ _ h)
def f_X12_wrong_93 (N : Nat) (r31 : hP → Option Nat → Int32 → Int32 → Int32 → Int32 → Option (Int32 × hP)) (A : hP) (x0 : Option Nat) (x1 : Int32) (x2 : Int32) (x4 : Int32) (x5 : Int32) (x6 : Int32) : Option (Int32 × hP) := f_X12_wrong_98 N r31 A x0 x1 x2 x4 x5 x6 (1 : Int32)
set_option maxRecDepth 20000 in
set_option maxHeartbeats 4000000 in
theorem t_X12_wrong_93 {l : Launch} {G : gS} (N : Nat) (r31 : hP → Option Nat → Int32 → Int32 → Int32 → Int32 → Option (Int32 × hP)) (hr31 : ∀ (A : hP) (x0 : Option Nat) (x1 : Int32) (x2 : Int32) (x4 : Int32) (x5 : Int32) (res : Int32 × hP), r31 A x0 x1 x2 x4 x5 = some res → AW l mX12_wrong (g_rm 5 0 0) G (g_Qf G (gi res) 0 0) A 0 0 31 [some (va_rf x0), some (.int x1), some (.int x2), none, some (.int x4), some (.int x5), none, none] []) (A : hP) (x0 : Option Nat) (x1 : Int32) (x2 : Int32) (x4 : Int32) (x5 : Int32) (x6 : Int32) (res : Int32 × hP) (h : f_X12_wrong_93 N r31 A x0 x1 x2 x4 x5 x6 = some res) : AW l mX12_wrong (g_rm 5 0 0) G (g_Qf G (gi res) 0 0) A 0 0 93 [some (va_rf x0), some (.int x1), some (.int x2), none, some (.int x4), some (.int x5), some (.int x6), none] [] := by
  unfold f_X12_wrong_93 at h
  refine AW_iconst (v := 1) dX12_wrong_93 (by decide) ?_
  refine AW_goto (tgt := 98) dX12_wrong_94 (by decide) ?_
  exact (t_X12_wrong_98 N r31 hr31 _ _ _ _ _ _ _ _ _ h)
def f_X12_wrong_97 (N : Nat) (r31 : hP → Option Nat → Int32 → Int32 → Int32 → Int32 → Option (Int32 × hP)) (A : hP) (x0 : Option Nat) (x1 : Int32) (x2 : Int32) (x4 : Int32) (x5 : Int32) (x6 : Int32) : Option (Int32 × hP) := f_X12_wrong_98 N r31 A x0 x1 x2 x4 x5 x6 (0 : Int32)
set_option maxRecDepth 20000 in
set_option maxHeartbeats 4000000 in
theorem t_X12_wrong_97 {l : Launch} {G : gS} (N : Nat) (r31 : hP → Option Nat → Int32 → Int32 → Int32 → Int32 → Option (Int32 × hP)) (hr31 : ∀ (A : hP) (x0 : Option Nat) (x1 : Int32) (x2 : Int32) (x4 : Int32) (x5 : Int32) (res : Int32 × hP), r31 A x0 x1 x2 x4 x5 = some res → AW l mX12_wrong (g_rm 5 0 0) G (g_Qf G (gi res) 0 0) A 0 0 31 [some (va_rf x0), some (.int x1), some (.int x2), none, some (.int x4), some (.int x5), none, none] []) (A : hP) (x0 : Option Nat) (x1 : Int32) (x2 : Int32) (x4 : Int32) (x5 : Int32) (x6 : Int32) (res : Int32 × hP) (h : f_X12_wrong_97 N r31 A x0 x1 x2 x4 x5 x6 = some res) : AW l mX12_wrong (g_rm 5 0 0) G (g_Qf G (gi res) 0 0) A 0 0 97 [some (va_rf x0), some (.int x1), some (.int x2), none, some (.int x4), some (.int x5), some (.int x6), none] [] := by
  unfold f_X12_wrong_97 at h
  refine AW_iconst (v := 0) dX12_wrong_97 (by decide) ?_
  exact (t_X12_wrong_98 N r31 hr31 _ _ _ _ _ _ _ _ _ h)
def f_X12_wrong_134 (N : Nat) (A : hP) (s0 : Int32) : Option (Int32 × hP) := some (s0, A)
set_option maxRecDepth 20000 in
set_option maxHeartbeats 4000000 in
theorem t_X12_wrong_134 {l : Launch} {G : gS} (N : Nat) (A : hP) (s0 : Int32) (res : Int32 × hP) (h : f_X12_wrong_134 N A s0 = some res) : AW l mX12_wrong (g_rm 5 0 0) G (g_Qf G (gi res) 0 0) A 0 0 134 [none, none, none, none, none, none, none, none] [.int s0] := by
  unfold f_X12_wrong_134 at h
  exact AW_iret dX12_wrong_134 rfl ⟨Nat.zero_le _, Nat.zero_le _⟩ h
def f_X12_wrong_31 (N : Nat) : Nat → hP → Option Nat → Int32 → Int32 → Int32 → Int32 → Option (Int32 × hP)
  | 0, _, _, _, _, _, _ => none
  | n + 1, A, x0, x1, x2, x4, x5 => (oCk A x0 11).bind fun _ => (f_X12_worlds N A x0).bind fun q1 => if q1.1 ≤ x5 then (if x2 = (0) then ((f_X12_bits N q1.2 x4).bind fun q2 => f_X12_wrong_134 N q2.2 q2.1) else (f_X12_wrong_134 N q1.2 x4)) else ((oCk q1.2 x0 11).bind fun _ => (f_X12_layWorld N q1.2 x0 x5).bind fun q3 => (oCk q3.2 x0 11).bind fun _ => (f_X12_wrongDays N q3.2 x0 x1).bind fun q4 => if x4 = (-1000000 : Int32) then (f_X12_wrong_93 N (f_X12_wrong_31 N n) q4.2 x0 x1 x2 x4 x5 q4.1) else ((f_X12_bits N q4.2 q4.1).bind fun q5 => (f_X12_bits N q5.2 x4).bind fun q6 => if q5.1 < q6.1 then (f_X12_wrong_93 N (f_X12_wrong_31 N n) q6.2 x0 x1 x2 x4 x5 q4.1) else ((f_X12_bits N q6.2 q4.1).bind fun q7 => (f_X12_bits N q7.2 x4).bind fun q8 => if q7.1 = q8.1 then (if x4 ≤ q4.1 then (f_X12_wrong_97 N (f_X12_wrong_31 N n) q8.2 x0 x1 x2 x4 x5 q4.1) else (f_X12_wrong_93 N (f_X12_wrong_31 N n) q8.2 x0 x1 x2 x4 x5 q4.1)) else (f_X12_wrong_97 N (f_X12_wrong_31 N n) q8.2 x0 x1 x2 x4 x5 q4.1))))
set_option maxRecDepth 20000 in
set_option maxHeartbeats 4000000 in
theorem t_X12_wrong_31 {l : Launch} {G : gS} (N : Nat) : ∀ (n : Nat) (A : hP) (x0 : Option Nat) (x1 : Int32) (x2 : Int32) (x4 : Int32) (x5 : Int32) (res : Int32 × hP), f_X12_wrong_31 N n A x0 x1 x2 x4 x5 = some res → AW l mX12_wrong (g_rm 5 0 0) G (g_Qf G (gi res) 0 0) A 0 0 31 [some (va_rf x0), some (.int x1), some (.int x2), none, some (.int x4), some (.int x5), none, none] [] := by
  intro n
  induction n with
  | zero => intro A x0 x1 x2 x4 x5 res h; cases h
  | succ n ih =>
    intro A x0 x1 x2 x4 x5 res h
    rw [f_X12_wrong_31] at h
    refine AW_iload dX12_wrong_31 rfl ?_
    refine AW_aload_n dX12_wrong_33 rfl ?_
    refine AW_callVi (y := yX12_worlds) (cc := cX12_worlds) (n := 1) (d := 0) (mc := 0) (ms := 0) (np := 0) (ret := (some .int)) (As := []) (st := [.int x5]) (ci := 11) dX12_wrong_34 gT_s rfl tM_X12_225 tI_X12_worlds selp_X12_worlds tIni_X12 tY_X12_worlds (by decide +kernel) ⟨by decide, by decide⟩ ⟨by decide, by decide⟩ (Nat.le_of_ble_eq_true rfl) rfl h (fun q hq => c_X12_worlds N _ _ q hq) (fun q1 _ h => ?_)
    refine AW_icmp_ge (tgt := 120) dX12_wrong_37 (by decide) h (fun _ h => ?_) (fun _ h => ?_)
    · refine AW_iload_n dX12_wrong_120 rfl ?_
      refine AW_if_ne (tgt := 132) dX12_wrong_121 (by decide) h (fun _ h => ?_) (fun _ h => ?_)
      · refine AW_iload dX12_wrong_132 rfl ?_
        exact AW_fewer (fw_d (fw_d (fw_d (fw_k (fw_d (fw_d (fw_k (fw_k fw_n)))))))) (t_X12_wrong_134 N _ _ _ h)
      · refine AW_iload dX12_wrong_124 rfl ?_
        refine AW_callSi (y := yX12_bits) (cc := cX12_bits) (n := 3) (d := 0) (mc := 0) (ms := 0) (np := 1) (ret := (some .int)) (As := [.int x4]) (st := []) dX12_wrong_126 gT_s tM_X12_237 tS_X12_bits tIni_X12 tY_X12_bits (by decide +kernel) ⟨by decide, by decide⟩ ⟨by decide, by decide⟩ (Nat.le_of_ble_eq_true rfl) rfl h (fun q hq => c_X12_bits N _ _ q hq) (fun q2 _ h => ?_)
        refine AW_goto (tgt := 134) dX12_wrong_129 (by decide) ?_
        exact AW_fewer (fw_d (fw_d (fw_d (fw_k (fw_d (fw_d (fw_k (fw_k fw_n)))))))) (t_X12_wrong_134 N _ _ _ h)
    · refine AW_aload_n dX12_wrong_40 rfl ?_
      refine AW_iload dX12_wrong_41 rfl ?_
      refine AW_callVu (y := yX12_layWorld) (cc := cX12_layWorld) (n := 3) (d := 0) (mc := 0) (ms := 0) (np := 1) (ret := none) (As := [.int x5]) (st := []) (ci := 11) dX12_wrong_43 gT_s rfl tM_X12_228 tI_X12_layWorld selp_X12_layWorld tIni_X12 tY_X12_layWorld (by decide +kernel) ⟨by decide, by decide⟩ ⟨by decide, by decide⟩ (Nat.le_of_ble_eq_true rfl) rfl h (fun q hq => c_X12_layWorld N _ _ _ q hq) (fun q3 _ h => ?_)
      refine AW_aload_n dX12_wrong_46 rfl ?_
      refine AW_iload_n dX12_wrong_47 rfl ?_
      refine AW_callVi (y := yX12_wrongDays) (cc := cX12_wrongDays) (n := 5) (d := 4) (mc := 0) (ms := 0) (np := 1) (ret := (some .int)) (As := [.int x1]) (st := []) (ci := 11) dX12_wrong_48 gT_s rfl tM_X12_231 tI_X12_wrongDays selp_X12_wrongDays tIni_X12 tY_X12_wrongDays (by decide +kernel) ⟨by decide, by decide⟩ ⟨by decide, by decide⟩ (Nat.le_of_ble_eq_true rfl) rfl h (fun q hq => c_X12_wrongDays N _ _ _ q hq) (fun q4 _ h => ?_)
      refine AW_istore (ls' := [some (va_rf x0), some (.int x1), some (.int x2), none, some (.int x4), some (.int x5), some (.int q4.1), none]) dX12_wrong_51 (c1_i rfl) (by decide) rfl ?_
      refine AW_iload dX12_wrong_53 rfl ?_
      refine AW_ldc (v := -1000000) dX12_wrong_55 (List.mem_cons_of_mem _ tK_X12_83) ?_
      refine AW_icmp_eq (tgt := 93) dX12_wrong_57 (by decide) h (fun _ h => ?_) (fun _ h => ?_)
      · exact (t_X12_wrong_93 N (f_X12_wrong_31 N n) ih _ _ _ _ _ _ _ _ h)
      · refine AW_iload dX12_wrong_60 rfl ?_
        refine AW_callSi (y := yX12_bits) (cc := cX12_bits) (n := 3) (d := 0) (mc := 0) (ms := 0) (np := 1) (ret := (some .int)) (As := [.int q4.1]) (st := []) dX12_wrong_62 gT_s tM_X12_237 tS_X12_bits tIni_X12 tY_X12_bits (by decide +kernel) ⟨by decide, by decide⟩ ⟨by decide, by decide⟩ (Nat.le_of_ble_eq_true rfl) rfl h (fun q hq => c_X12_bits N _ _ q hq) (fun q5 _ h => ?_)
        refine AW_iload dX12_wrong_65 rfl ?_
        refine AW_callSi (y := yX12_bits) (cc := cX12_bits) (n := 3) (d := 0) (mc := 0) (ms := 0) (np := 1) (ret := (some .int)) (As := [.int x4]) (st := [.int q5.1]) dX12_wrong_67 gT_s tM_X12_237 tS_X12_bits tIni_X12 tY_X12_bits (by decide +kernel) ⟨by decide, by decide⟩ ⟨by decide, by decide⟩ (Nat.le_of_ble_eq_true rfl) rfl h (fun q hq => c_X12_bits N _ _ q hq) (fun q6 _ h => ?_)
        refine AW_icmp_lt (tgt := 93) dX12_wrong_70 (by decide) h (fun _ h => ?_) (fun _ h => ?_)
        · exact (t_X12_wrong_93 N (f_X12_wrong_31 N n) ih _ _ _ _ _ _ _ _ h)
        · refine AW_iload dX12_wrong_73 rfl ?_
          refine AW_callSi (y := yX12_bits) (cc := cX12_bits) (n := 3) (d := 0) (mc := 0) (ms := 0) (np := 1) (ret := (some .int)) (As := [.int q4.1]) (st := []) dX12_wrong_75 gT_s tM_X12_237 tS_X12_bits tIni_X12 tY_X12_bits (by decide +kernel) ⟨by decide, by decide⟩ ⟨by decide, by decide⟩ (Nat.le_of_ble_eq_true rfl) rfl h (fun q hq => c_X12_bits N _ _ q hq) (fun q7 _ h => ?_)
          refine AW_iload dX12_wrong_78 rfl ?_
          refine AW_callSi (y := yX12_bits) (cc := cX12_bits) (n := 3) (d := 0) (mc := 0) (ms := 0) (np := 1) (ret := (some .int)) (As := [.int x4]) (st := [.int q7.1]) dX12_wrong_80 gT_s tM_X12_237 tS_X12_bits tIni_X12 tY_X12_bits (by decide +kernel) ⟨by decide, by decide⟩ ⟨by decide, by decide⟩ (Nat.le_of_ble_eq_true rfl) rfl h (fun q hq => c_X12_bits N _ _ q hq) (fun q8 _ h => ?_)
          refine AW_icmp_ne (tgt := 97) dX12_wrong_83 (by decide) h (fun _ h => ?_) (fun _ h => ?_)
          · exact (t_X12_wrong_97 N (f_X12_wrong_31 N n) ih _ _ _ _ _ _ _ _ h)
          · refine AW_iload dX12_wrong_86 rfl ?_
            refine AW_iload dX12_wrong_88 rfl ?_
            refine AW_icmp_ge (tgt := 97) dX12_wrong_90 (by decide) h (fun _ h => ?_) (fun _ h => ?_)
            · exact (t_X12_wrong_97 N (f_X12_wrong_31 N n) ih _ _ _ _ _ _ _ _ h)
            · exact (t_X12_wrong_93 N (f_X12_wrong_31 N n) ih _ _ _ _ _ _ _ _ h)
def f_X12_wrong_0 (N : Nat) (A : hP) (x0 : Option Nat) (x1 : Int32) (x2 : Int32) : Option (Int32 × hP) := (oP A x0 11 0 (.int (0 : Int32))).bind fun A9 => (f_X12_in N A9 x2.toInt64 (0 : Int64) (1 : Int64)).bind fun q10 => (oCk q10.2 x0 11).bind fun _ => (f_X12_barred N q10.2 x0 x1 q10.1).bind fun q11 => if (0) ≤ q11.1 then (f_X12_wrong_31 N N q11.2 x0 x1 x2 (-1000000 : Int32) (0 : Int32)) else (some (q11.1, q11.2))
set_option maxRecDepth 20000 in
set_option maxHeartbeats 4000000 in
theorem t_X12_wrong_0 {l : Launch} {G : gS} (N : Nat) (A : hP) (x0 : Option Nat) (x1 : Int32) (x2 : Int32) (res : Int32 × hP) (h : f_X12_wrong_0 N A x0 x1 x2 = some res) : AW l mX12_wrong (g_rm 5 0 0) G (g_Qf G (gi res) 0 0) A 0 0 0 [some (va_rf x0), some (.int x1), some (.int x2), none, none, none, none, none] [] := by
  unfold f_X12_wrong_0 at h
  refine AW_aload_n dX12_wrong_0 rfl ?_
  refine AW_iconst (v := 0) dX12_wrong_1 (by decide) ?_
  refine AW_put (ci := 11) (k0 := 0) (C := RX12) (T := TX12) (N := 31) (ty0 := tyX12) dX12_wrong_2 rfl (gT_u tU_X12) tyX12_ok nmX12 (by decide) (List.mem_cons_of_mem _ tF_X12_47) (Or.inl rfl) rfl rfl h (fun A9 _ h => ?_)
  refine AW_aload_n dX12_wrong_5 rfl ?_
  refine AW_iload_n dX12_wrong_6 rfl ?_
  refine AW_iload_n dX12_wrong_7 rfl ?_
  refine AW_i2l dX12_wrong_8 ?_
  refine AW_lconst (v := 0) dX12_wrong_9 (by decide) ?_
  refine AW_lconst (v := 1) dX12_wrong_10 (by decide) ?_
  refine AW_callSi (y := yX12_in) (cc := cX12_in) (n := 6) (d := 0) (mc := 0) (ms := 0) (np := 3) (ret := (some .boolean)) (As := [.long x2.toInt64, .long (0 : Int64), .long (1 : Int64)]) (st := [.int x1, va_rf x0]) dX12_wrong_11 gT_s tM_X12_57 tS_X12_in tIni_X12 tY_X12_in (by decide +kernel) ⟨by decide, by decide⟩ ⟨by decide, by decide⟩ (Nat.le_of_ble_eq_true rfl) rfl h (fun q hq => c_X12_in N _ _ _ _ q hq) (fun q10 _ h => ?_)
  refine AW_callVi (y := yX12_barred) (cc := cX12_barred) (n := 4) (d := 2) (mc := 0) (ms := 0) (np := 2) (ret := (some .int)) (As := [.int x1, .int q10.1]) (st := []) (ci := 11) dX12_wrong_14 gT_s rfl tM_X12_221 tI_X12_barred selp_X12_barred tIni_X12 tY_X12_barred (by decide +kernel) ⟨by decide, by decide⟩ ⟨by decide, by decide⟩ (Nat.le_of_ble_eq_true rfl) rfl h (fun q hq => c_X12_barred N _ _ _ _ q hq) (fun q11 _ h => ?_)
  refine AW_istore_n (ls' := [some (va_rf x0), some (.int x1), some (.int x2), some (.int q11.1), none, none, none, none]) dX12_wrong_17 (c1_i rfl) (by decide) rfl ?_
  refine AW_iload_n dX12_wrong_18 rfl ?_
  refine AW_if_ge (tgt := 24) dX12_wrong_19 (by decide) h (fun _ h => ?_) (fun _ h => ?_)
  · refine AW_ldc (v := -1000000) dX12_wrong_24 (List.mem_cons_of_mem _ tK_X12_83) ?_
    refine AW_istore (ls' := [some (va_rf x0), some (.int x1), some (.int x2), some (.int q11.1), some (.int (-1000000 : Int32)), none, none, none]) dX12_wrong_26 (c1_i rfl) (by decide) rfl ?_
    refine AW_iconst (v := 0) dX12_wrong_28 (by decide) ?_
    refine AW_istore (ls' := [some (va_rf x0), some (.int x1), some (.int x2), some (.int q11.1), some (.int (-1000000 : Int32)), some (.int (0 : Int32)), none, none]) dX12_wrong_29 (c1_i rfl) (by decide) rfl ?_
    exact AW_fewer (fw_k (fw_k (fw_k (fw_d (fw_k (fw_k (fw_k (fw_k fw_n)))))))) (t_X12_wrong_31 N N _ _ _ _ _ _ _ h)
  · refine AW_iload_n dX12_wrong_22 rfl ?_
    exact AW_iret dX12_wrong_23 rfl ⟨Nat.zero_le _, Nat.zero_le _⟩ h
def f_X12_wrong (N : Nat) (A : hP) (x0 : Option Nat) (x1 : Int32) (x2 : Int32) : Option (Int32 × hP) := f_X12_wrong_0 N A x0 x1 x2
set_option maxRecDepth 20000 in
theorem c_X12_wrong {l : Launch} (N : Nat) (A : hP) (x0 : Option Nat) (x1 : Int32) (x2 : Int32) (res : Int32 × hP) (h : f_X12_wrong N A x0 x1 x2 = some res) : Ct l mX12_wrong 5 0 0 A [va_rf x0, .int x1, .int x2] (gi res) := Ct.of (lv := [(0, va_rf x0), (1, .int x1), (2, .int x2)]) (ls := [some (va_rf x0), some (.int x1), some (.int x2), none, none, none, none, none]) (by decide) (by simp [lv_args, g_cat_rf, cat_i, cat_l]) rfl (by simp [g_cat_rf, cat_i, cat_l]) (fun G => (t_X12_wrong_0 N A x0 x1 x2 res h))
abbrev mX12_layTrulyShown : gM := gMk yX12_layTrulyShown cX12_layTrulyShown 3 none
def f_X12_layTrulyShown_6 (N : Nat) : Nat → hP → Option Nat → Int32 → Int32 → Option (Unit × hP)
  | 0, _, _, _, _ => none
  | n + 1, A, x0, x1, x2 => if x1 ≤ x2 then (some ((), A)) else ((oR A x0 11 23).bind fun v1 => (oCk A x0 11).bind fun _ => (f_X12_shows N A x0 x2).bind fun q2 => (oS q2.2 v1 0 x2 q2.1).bind fun A3 => f_X12_layTrulyShown_6 N n A3 x0 x1 (x2 + (1 : Int32)))
set_option maxRecDepth 20000 in
set_option maxHeartbeats 4000000 in
theorem t_X12_layTrulyShown_6 {l : Launch} {G : gS} (N : Nat) : ∀ (n : Nat) (A : hP) (x0 : Option Nat) (x1 : Int32) (x2 : Int32) (res : Unit × hP), f_X12_layTrulyShown_6 N n A x0 x1 x2 = some res → AW l mX12_layTrulyShown (g_rm 4 0 0) G (g_Qf G (gu res) 0 0) A 0 0 6 [some (va_rf x0), some (.int x1), some (.int x2)] [] := by
  intro n
  induction n with
  | zero => intro A x0 x1 x2 res h; cases h
  | succ n ih =>
    intro A x0 x1 x2 res h
    rw [f_X12_layTrulyShown_6] at h
    refine AW_iload_n dX12_layTrulyShown_6 rfl ?_
    refine AW_iload_n dX12_layTrulyShown_7 rfl ?_
    refine AW_icmp_ge (tgt := 28) dX12_layTrulyShown_8 (by decide) h (fun _ h => ?_) (fun _ h => ?_)
    · exact AW_vret dX12_layTrulyShown_28 rfl ⟨Nat.zero_le _, Nat.zero_le _⟩ h
    · refine AW_aload_n dX12_layTrulyShown_11 rfl ?_
      refine AW_getR (ci := 11) (k0 := 23) (C := RX12) (T := TX12) (N := 31) dX12_layTrulyShown_12 rfl (gT_u tU_X12) (by decide) (List.mem_cons_of_mem _ tF_X12_34) h (fun v1 _ h => ?_)
      refine AW_iload_n dX12_layTrulyShown_15 rfl ?_
      refine AW_aload_n dX12_layTrulyShown_16 rfl ?_
      refine AW_iload_n dX12_layTrulyShown_17 rfl ?_
      refine AW_callVi (y := yX12_shows) (cc := cX12_shows) (n := 5) (d := 3) (mc := 0) (ms := 0) (np := 1) (ret := (some .int)) (As := [.int x2]) (st := [.int x2, va_rf v1]) (ci := 11) dX12_layTrulyShown_18 gT_s rfl tM_X12_206 tI_X12_shows selp_X12_shows tIni_X12 tY_X12_shows (by decide +kernel) ⟨by decide, by decide⟩ ⟨by decide, by decide⟩ (Nat.le_of_ble_eq_true rfl) rfl h (fun q hq => c_X12_shows N _ _ _ q hq) (fun q2 _ h => ?_)
      refine AW_iast dX12_layTrulyShown_21 h (fun A3 _ h => ?_)
      refine AW_iinc (v := 1) (ls' := [some (va_rf x0), some (.int x1), some (.int (x2 + (1 : Int32)))]) dX12_layTrulyShown_22 rfl (c1_i rfl) (by decide) (by decide) rfl ?_
      refine AW_goto (tgt := 6) dX12_layTrulyShown_25 (by decide) ?_
      exact (ih _ _ _ _ _ h)
def f_X12_layTrulyShown_0 (N : Nat) (A : hP) (x0 : Option Nat) (x1 : Int32) : Option (Unit × hP) := (oCk A x0 11).bind fun _ => (f_X12_layTruly N A x0).bind fun q4 => f_X12_layTrulyShown_6 N N q4.2 x0 x1 (0 : Int32)
set_option maxRecDepth 20000 in
set_option maxHeartbeats 4000000 in
theorem t_X12_layTrulyShown_0 {l : Launch} {G : gS} (N : Nat) (A : hP) (x0 : Option Nat) (x1 : Int32) (res : Unit × hP) (h : f_X12_layTrulyShown_0 N A x0 x1 = some res) : AW l mX12_layTrulyShown (g_rm 4 0 0) G (g_Qf G (gu res) 0 0) A 0 0 0 [some (va_rf x0), some (.int x1), none] [] := by
  unfold f_X12_layTrulyShown_0 at h
  refine AW_aload_n dX12_layTrulyShown_0 rfl ?_
  refine AW_callVu (y := yX12_layTruly) (cc := cX12_layTruly) (n := 2) (d := 0) (mc := 0) (ms := 0) (np := 0) (ret := none) (As := []) (st := []) (ci := 11) dX12_layTrulyShown_1 gT_s rfl tM_X12_203 tI_X12_layTruly selp_X12_layTruly tIni_X12 tY_X12_layTruly (by decide +kernel) ⟨by decide, by decide⟩ ⟨by decide, by decide⟩ (Nat.le_of_ble_eq_true rfl) rfl h (fun q hq => c_X12_layTruly N _ _ q hq) (fun q4 _ h => ?_)
  refine AW_iconst (v := 0) dX12_layTrulyShown_4 (by decide) ?_
  refine AW_istore_n (ls' := [some (va_rf x0), some (.int x1), some (.int (0 : Int32))]) dX12_layTrulyShown_5 (c1_i rfl) (by decide) rfl ?_
  exact (t_X12_layTrulyShown_6 N N _ _ _ _ _ h)
def f_X12_layTrulyShown (N : Nat) (A : hP) (x0 : Option Nat) (x1 : Int32) : Option (Unit × hP) := f_X12_layTrulyShown_0 N A x0 x1
set_option maxRecDepth 20000 in
theorem c_X12_layTrulyShown {l : Launch} (N : Nat) (A : hP) (x0 : Option Nat) (x1 : Int32) (res : Unit × hP) (h : f_X12_layTrulyShown N A x0 x1 = some res) : Ct l mX12_layTrulyShown 4 0 0 A [va_rf x0, .int x1] (gu res) := Ct.of (lv := [(0, va_rf x0), (1, .int x1)]) (ls := [some (va_rf x0), some (.int x1), none]) (by decide) (by simp [lv_args, g_cat_rf, cat_i, cat_l]) rfl (by simp [g_cat_rf, cat_i, cat_l]) (fun G => (t_X12_layTrulyShown_0 N A x0 x1 res h))
abbrev mX12_layLeft : gM := gMk yX12_layLeft cX12_layLeft 4 none
def f_X12_layLeft_67 (N : Nat) (r17 : hP → Option Nat → Int32 → Option (Unit × hP)) (r34 : hP → Option Nat → Int32 → Int32 → Int32 → Option (Unit × hP)) (A : hP) (x0 : Option Nat) (x1 : Int32) (x3 : Int32) (s0 : Int32) : Option (Unit × hP) := r34 A x0 x1 s0 (x3 + (1 : Int32))
set_option maxRecDepth 20000 in
set_option maxHeartbeats 4000000 in
theorem t_X12_layLeft_67 {l : Launch} {G : gS} (N : Nat) (r17 : hP → Option Nat → Int32 → Option (Unit × hP)) (hr17 : ∀ (A : hP) (x0 : Option Nat) (x1 : Int32) (res : Unit × hP), r17 A x0 x1 = some res → AW l mX12_layLeft (g_rm 5 0 0) G (g_Qf G (gu res) 0 0) A 0 0 17 [some (va_rf x0), some (.int x1), none, none] []) (r34 : hP → Option Nat → Int32 → Int32 → Int32 → Option (Unit × hP)) (hr34 : ∀ (A : hP) (x0 : Option Nat) (x1 : Int32) (x2 : Int32) (x3 : Int32) (res : Unit × hP), r34 A x0 x1 x2 x3 = some res → AW l mX12_layLeft (g_rm 5 0 0) G (g_Qf G (gu res) 0 0) A 0 0 34 [some (va_rf x0), some (.int x1), some (.int x2), some (.int x3)] []) (A : hP) (x0 : Option Nat) (x1 : Int32) (x3 : Int32) (s0 : Int32) (res : Unit × hP) (h : f_X12_layLeft_67 N r17 r34 A x0 x1 x3 s0 = some res) : AW l mX12_layLeft (g_rm 5 0 0) G (g_Qf G (gu res) 0 0) A 0 0 67 [some (va_rf x0), some (.int x1), none, some (.int x3)] [.int s0] := by
  unfold f_X12_layLeft_67 at h
  refine AW_istore_n (ls' := [some (va_rf x0), some (.int x1), some (.int s0), some (.int x3)]) dX12_layLeft_67 (c1_i rfl) (by decide) rfl ?_
  refine AW_iinc (v := 1) (ls' := [some (va_rf x0), some (.int x1), some (.int s0), some (.int (x3 + (1 : Int32)))]) dX12_layLeft_68 rfl (c1_i rfl) (by decide) (by decide) rfl ?_
  refine AW_goto (tgt := 34) dX12_layLeft_71 (by decide) ?_
  exact (hr34 _ _ _ _ _ _ h)
def f_X12_layLeft_98 (N : Nat) (r17 : hP → Option Nat → Int32 → Option (Unit × hP)) (A : hP) (x0 : Option Nat) (x1 : Int32) : Option (Unit × hP) := r17 A x0 (x1 + (1 : Int32))
set_option maxRecDepth 20000 in
set_option maxHeartbeats 4000000 in
theorem t_X12_layLeft_98 {l : Launch} {G : gS} (N : Nat) (r17 : hP → Option Nat → Int32 → Option (Unit × hP)) (hr17 : ∀ (A : hP) (x0 : Option Nat) (x1 : Int32) (res : Unit × hP), r17 A x0 x1 = some res → AW l mX12_layLeft (g_rm 5 0 0) G (g_Qf G (gu res) 0 0) A 0 0 17 [some (va_rf x0), some (.int x1), none, none] []) (A : hP) (x0 : Option Nat) (x1 : Int32) (res : Unit × hP) (h : f_X12_layLeft_98 N r17 A x0 x1 = some res) : AW l mX12_layLeft (g_rm 5 0 0) G (g_Qf G (gu res) 0 0) A 0 0 98 [some (va_rf x0), some (.int x1), none, none] [] := by
  unfold f_X12_layLeft_98 at h
  refine AW_iinc (v := 1) (ls' := [some (va_rf x0), some (.int (x1 + (1 : Int32))), none, none]) dX12_layLeft_98 rfl (c1_r rfl) (by decide) (by decide) rfl ?_
  refine AW_goto (tgt := 17) dX12_layLeft_101 (by decide) ?_
  exact (hr17 _ _ _ _ h)
def f_X12_layLeft_74 (N : Nat) (r17 : hP → Option Nat → Int32 → Option (Unit × hP)) (A : hP) (x0 : Option Nat) (x1 : Int32) (x2 : Int32) : Option (Unit × hP) := if x2 = (0) then (f_X12_layLeft_98 N r17 A x0 x1) else ((oR A x0 11 21).bind fun v1 => (oI A x0 11 22).bind fun v2 => (oS A v1 0 v2 x1).bind fun A3 => (oI A3 x0 11 22).bind fun v4 => (oP A3 x0 11 22 (.int (v4 + (1 : Int32)))).bind fun A5 => f_X12_layLeft_98 N r17 A5 x0 x1)
set_option maxRecDepth 20000 in
set_option maxHeartbeats 4000000 in
theorem t_X12_layLeft_74 {l : Launch} {G : gS} (N : Nat) (r17 : hP → Option Nat → Int32 → Option (Unit × hP)) (hr17 : ∀ (A : hP) (x0 : Option Nat) (x1 : Int32) (res : Unit × hP), r17 A x0 x1 = some res → AW l mX12_layLeft (g_rm 5 0 0) G (g_Qf G (gu res) 0 0) A 0 0 17 [some (va_rf x0), some (.int x1), none, none] []) (A : hP) (x0 : Option Nat) (x1 : Int32) (x2 : Int32) (res : Unit × hP) (h : f_X12_layLeft_74 N r17 A x0 x1 x2 = some res) : AW l mX12_layLeft (g_rm 5 0 0) G (g_Qf G (gu res) 0 0) A 0 0 74 [some (va_rf x0), some (.int x1), some (.int x2), none] [] := by
  unfold f_X12_layLeft_74 at h
  refine AW_iload_n dX12_layLeft_74 rfl ?_
  refine AW_if_eq (tgt := 98) dX12_layLeft_75 (by decide) h (fun _ h => ?_) (fun _ h => ?_)
  · exact AW_fewer (fw_k (fw_k (fw_d (fw_k fw_n)))) (t_X12_layLeft_98 N r17 hr17 _ _ _ _ h)
  · refine AW_aload_n dX12_layLeft_78 rfl ?_
    refine AW_getR (ci := 11) (k0 := 21) (C := RX12) (T := TX12) (N := 31) dX12_layLeft_79 rfl (gT_u tU_X12) (by decide) (List.mem_cons_of_mem _ tF_X12_31) h (fun v1 _ h => ?_)
    refine AW_aload_n dX12_layLeft_82 rfl ?_
    refine AW_getI (ci := 11) (k0 := 22) (C := RX12) (T := TX12) (N := 31) dX12_layLeft_83 rfl (gT_u tU_X12) (by decide) (List.mem_cons_of_mem _ tF_X12_243) h (fun v2 _ h => ?_)
    refine AW_iload_n dX12_layLeft_86 rfl ?_
    refine AW_iast dX12_layLeft_87 h (fun A3 _ h => ?_)
    refine AW_aload_n dX12_layLeft_88 rfl ?_
    refine AW_dup dX12_layLeft_89 (g_cat_rf _) ?_
    refine AW_getI (ci := 11) (k0 := 22) (C := RX12) (T := TX12) (N := 31) dX12_layLeft_90 rfl (gT_u tU_X12) (by decide) (List.mem_cons_of_mem _ tF_X12_243) h (fun v4 _ h => ?_)
    refine AW_iconst (v := 1) dX12_layLeft_93 (by decide) ?_
    refine AW_iadd dX12_layLeft_94 ?_
    refine AW_put (ci := 11) (k0 := 22) (C := RX12) (T := TX12) (N := 31) (ty0 := tyX12) dX12_layLeft_95 rfl (gT_u tU_X12) tyX12_ok nmX12 (by decide) (List.mem_cons_of_mem _ tF_X12_243) (Or.inl rfl) rfl rfl h (fun A5 _ h => ?_)
    exact AW_fewer (fw_k (fw_k (fw_d (fw_k fw_n)))) (t_X12_layLeft_98 N r17 hr17 _ _ _ _ h)
def f_X12_layLeft_34 (N : Nat) (r17 : hP → Option Nat → Int32 → Option (Unit × hP)) : Nat → hP → Option Nat → Int32 → Int32 → Int32 → Option (Unit × hP)
  | 0, _, _, _, _, _ => none
  | n + 1, A, x0, x1, x2, x3 => (oR A x0 11 5).bind fun v6 => (oA A v6 0 (4 : Int32)).bind fun v7 => if v7 ≤ x3 then (f_X12_layLeft_74 N r17 A x0 x1 x2) else (if x2 = (0) then (f_X12_layLeft_74 N r17 A x0 x1 x2) else ((oCk A x0 11).bind fun _ => (f_X12_shows N A x0 x3).bind fun q8 => (oR q8.2 x0 11 23).bind fun v9 => (oA q8.2 v9 0 x3).bind fun v10 => if q8.1 = v10 then (f_X12_layLeft_67 N r17 (f_X12_layLeft_34 N r17 n) q8.2 x0 x1 x3 (1 : Int32)) else (f_X12_layLeft_67 N r17 (f_X12_layLeft_34 N r17 n) q8.2 x0 x1 x3 (0 : Int32))))
set_option maxRecDepth 20000 in
set_option maxHeartbeats 4000000 in
theorem t_X12_layLeft_34 {l : Launch} {G : gS} (N : Nat) (r17 : hP → Option Nat → Int32 → Option (Unit × hP)) (hr17 : ∀ (A : hP) (x0 : Option Nat) (x1 : Int32) (res : Unit × hP), r17 A x0 x1 = some res → AW l mX12_layLeft (g_rm 5 0 0) G (g_Qf G (gu res) 0 0) A 0 0 17 [some (va_rf x0), some (.int x1), none, none] []) : ∀ (n : Nat) (A : hP) (x0 : Option Nat) (x1 : Int32) (x2 : Int32) (x3 : Int32) (res : Unit × hP), f_X12_layLeft_34 N r17 n A x0 x1 x2 x3 = some res → AW l mX12_layLeft (g_rm 5 0 0) G (g_Qf G (gu res) 0 0) A 0 0 34 [some (va_rf x0), some (.int x1), some (.int x2), some (.int x3)] [] := by
  intro n
  induction n with
  | zero => intro A x0 x1 x2 x3 res h; cases h
  | succ n ih =>
    intro A x0 x1 x2 x3 res h
    rw [f_X12_layLeft_34] at h
    refine AW_iload_n dX12_layLeft_34 rfl ?_
    refine AW_aload_n dX12_layLeft_35 rfl ?_
    refine AW_getR (ci := 11) (k0 := 5) (C := RX12) (T := TX12) (N := 31) dX12_layLeft_36 rfl (gT_u tU_X12) (by decide) (List.mem_cons_of_mem _ tF_X12_19) h (fun v6 _ h => ?_)
    refine AW_iconst (v := 4) dX12_layLeft_39 (by decide) ?_
    refine AW_iald dX12_layLeft_40 h (fun v7 _ h => ?_)
    refine AW_icmp_ge (tgt := 74) dX12_layLeft_41 (by decide) h (fun _ h => ?_) (fun _ h => ?_)
    · exact AW_fewer (fw_k (fw_k (fw_k (fw_d fw_n)))) (t_X12_layLeft_74 N r17 hr17 _ _ _ _ _ h)
    · refine AW_iload_n dX12_layLeft_44 rfl ?_
      refine AW_if_eq (tgt := 74) dX12_layLeft_45 (by decide) h (fun _ h => ?_) (fun _ h => ?_)
      · exact AW_fewer (fw_k (fw_k (fw_k (fw_d fw_n)))) (t_X12_layLeft_74 N r17 hr17 _ _ _ _ _ h)
      · refine AW_aload_n dX12_layLeft_48 rfl ?_
        refine AW_iload_n dX12_layLeft_49 rfl ?_
        refine AW_callVi (y := yX12_shows) (cc := cX12_shows) (n := 5) (d := 3) (mc := 0) (ms := 0) (np := 1) (ret := (some .int)) (As := [.int x3]) (st := []) (ci := 11) dX12_layLeft_50 gT_s rfl tM_X12_206 tI_X12_shows selp_X12_shows tIni_X12 tY_X12_shows (by decide +kernel) ⟨by decide, by decide⟩ ⟨by decide, by decide⟩ (Nat.le_of_ble_eq_true rfl) rfl h (fun q hq => c_X12_shows N _ _ _ q hq) (fun q8 _ h => ?_)
        refine AW_aload_n dX12_layLeft_53 rfl ?_
        refine AW_getR (ci := 11) (k0 := 23) (C := RX12) (T := TX12) (N := 31) dX12_layLeft_54 rfl (gT_u tU_X12) (by decide) (List.mem_cons_of_mem _ tF_X12_34) h (fun v9 _ h => ?_)
        refine AW_iload_n dX12_layLeft_57 rfl ?_
        refine AW_iald dX12_layLeft_58 h (fun v10 _ h => ?_)
        refine AW_icmp_ne (tgt := 66) dX12_layLeft_59 (by decide) h (fun _ h => ?_) (fun _ h => ?_)
        · refine AW_iconst (v := 0) dX12_layLeft_66 (by decide) ?_
          exact AW_fewer (fw_k (fw_k (fw_d (fw_k fw_n)))) (t_X12_layLeft_67 N r17 hr17 (f_X12_layLeft_34 N r17 n) ih _ _ _ _ _ _ h)
        · refine AW_iconst (v := 1) dX12_layLeft_62 (by decide) ?_
          refine AW_goto (tgt := 67) dX12_layLeft_63 (by decide) ?_
          exact AW_fewer (fw_k (fw_k (fw_d (fw_k fw_n)))) (t_X12_layLeft_67 N r17 hr17 (f_X12_layLeft_34 N r17 n) ih _ _ _ _ _ _ h)
def f_X12_layLeft_17 (N : Nat) : Nat → hP → Option Nat → Int32 → Option (Unit × hP)
  | 0, _, _, _ => none
  | n + 1, A, x0, x1 => (oCk A x0 11).bind fun _ => (f_X12_worlds N A x0).bind fun q11 => if q11.1 ≤ x1 then (some ((), q11.2)) else ((oCk q11.2 x0 11).bind fun _ => (f_X12_layWorld N q11.2 x0 x1).bind fun q12 => f_X12_layLeft_34 N (f_X12_layLeft_17 N n) N q12.2 x0 x1 (1 : Int32) (0 : Int32))
set_option maxRecDepth 20000 in
set_option maxHeartbeats 4000000 in
theorem t_X12_layLeft_17 {l : Launch} {G : gS} (N : Nat) : ∀ (n : Nat) (A : hP) (x0 : Option Nat) (x1 : Int32) (res : Unit × hP), f_X12_layLeft_17 N n A x0 x1 = some res → AW l mX12_layLeft (g_rm 5 0 0) G (g_Qf G (gu res) 0 0) A 0 0 17 [some (va_rf x0), some (.int x1), none, none] [] := by
  intro n
  induction n with
  | zero => intro A x0 x1 res h; cases h
  | succ n ih =>
    intro A x0 x1 res h
    rw [f_X12_layLeft_17] at h
    refine AW_iload_n dX12_layLeft_17 rfl ?_
    refine AW_aload_n dX12_layLeft_18 rfl ?_
    refine AW_callVi (y := yX12_worlds) (cc := cX12_worlds) (n := 1) (d := 0) (mc := 0) (ms := 0) (np := 0) (ret := (some .int)) (As := []) (st := [.int x1]) (ci := 11) dX12_layLeft_19 gT_s rfl tM_X12_225 tI_X12_worlds selp_X12_worlds tIni_X12 tY_X12_worlds (by decide +kernel) ⟨by decide, by decide⟩ ⟨by decide, by decide⟩ (Nat.le_of_ble_eq_true rfl) rfl h (fun q hq => c_X12_worlds N _ _ q hq) (fun q11 _ h => ?_)
    refine AW_icmp_ge (tgt := 104) dX12_layLeft_22 (by decide) h (fun _ h => ?_) (fun _ h => ?_)
    · exact AW_vret dX12_layLeft_104 rfl ⟨Nat.zero_le _, Nat.zero_le _⟩ h
    · refine AW_aload_n dX12_layLeft_25 rfl ?_
      refine AW_iload_n dX12_layLeft_26 rfl ?_
      refine AW_callVu (y := yX12_layWorld) (cc := cX12_layWorld) (n := 3) (d := 0) (mc := 0) (ms := 0) (np := 1) (ret := none) (As := [.int x1]) (st := []) (ci := 11) dX12_layLeft_27 gT_s rfl tM_X12_228 tI_X12_layWorld selp_X12_layWorld tIni_X12 tY_X12_layWorld (by decide +kernel) ⟨by decide, by decide⟩ ⟨by decide, by decide⟩ (Nat.le_of_ble_eq_true rfl) rfl h (fun q hq => c_X12_layWorld N _ _ _ q hq) (fun q12 _ h => ?_)
      refine AW_iconst (v := 1) dX12_layLeft_30 (by decide) ?_
      refine AW_istore_n (ls' := [some (va_rf x0), some (.int x1), some (.int (1 : Int32)), none]) dX12_layLeft_31 (c1_i rfl) (by decide) rfl ?_
      refine AW_iconst (v := 0) dX12_layLeft_32 (by decide) ?_
      refine AW_istore_n (ls' := [some (va_rf x0), some (.int x1), some (.int (1 : Int32)), some (.int (0 : Int32))]) dX12_layLeft_33 (c1_i rfl) (by decide) rfl ?_
      exact (t_X12_layLeft_34 N (f_X12_layLeft_17 N n) ih N _ _ _ _ _ _ h)
def f_X12_layLeft_0 (N : Nat) (A : hP) (x0 : Option Nat) : Option (Unit × hP) := (oR A x0 11 5).bind fun v13 => (oA A v13 0 (4 : Int32)).bind fun v14 => (oCk A x0 11).bind fun _ => (f_X12_layTrulyShown N A x0 v14).bind fun q15 => (oP q15.2 x0 11 22 (.int (0 : Int32))).bind fun A16 => f_X12_layLeft_17 N N A16 x0 (0 : Int32)
set_option maxRecDepth 20000 in
set_option maxHeartbeats 4000000 in
theorem t_X12_layLeft_0 {l : Launch} {G : gS} (N : Nat) (A : hP) (x0 : Option Nat) (res : Unit × hP) (h : f_X12_layLeft_0 N A x0 = some res) : AW l mX12_layLeft (g_rm 5 0 0) G (g_Qf G (gu res) 0 0) A 0 0 0 [some (va_rf x0), none, none, none] [] := by
  unfold f_X12_layLeft_0 at h
  refine AW_aload_n dX12_layLeft_0 rfl ?_
  refine AW_aload_n dX12_layLeft_1 rfl ?_
  refine AW_getR (ci := 11) (k0 := 5) (C := RX12) (T := TX12) (N := 31) dX12_layLeft_2 rfl (gT_u tU_X12) (by decide) (List.mem_cons_of_mem _ tF_X12_19) h (fun v13 _ h => ?_)
  refine AW_iconst (v := 4) dX12_layLeft_5 (by decide) ?_
  refine AW_iald dX12_layLeft_6 h (fun v14 _ h => ?_)
  refine AW_callVu (y := yX12_layTrulyShown) (cc := cX12_layTrulyShown) (n := 3) (d := 4) (mc := 0) (ms := 0) (np := 1) (ret := none) (As := [.int v14]) (st := []) (ci := 11) dX12_layLeft_7 gT_s rfl tM_X12_240 tI_X12_layTrulyShown selp_X12_layTrulyShown tIni_X12 tY_X12_layTrulyShown (by decide +kernel) ⟨by decide, by decide⟩ ⟨by decide, by decide⟩ (Nat.le_of_ble_eq_true rfl) rfl h (fun q hq => c_X12_layTrulyShown N _ _ _ q hq) (fun q15 _ h => ?_)
  refine AW_aload_n dX12_layLeft_10 rfl ?_
  refine AW_iconst (v := 0) dX12_layLeft_11 (by decide) ?_
  refine AW_put (ci := 11) (k0 := 22) (C := RX12) (T := TX12) (N := 31) (ty0 := tyX12) dX12_layLeft_12 rfl (gT_u tU_X12) tyX12_ok nmX12 (by decide) (List.mem_cons_of_mem _ tF_X12_243) (Or.inl rfl) rfl rfl h (fun A16 _ h => ?_)
  refine AW_iconst (v := 0) dX12_layLeft_15 (by decide) ?_
  refine AW_istore_n (ls' := [some (va_rf x0), some (.int (0 : Int32)), none, none]) dX12_layLeft_16 (c1_r rfl) (by decide) rfl ?_
  exact (t_X12_layLeft_17 N N _ _ _ _ h)
def f_X12_layLeft (N : Nat) (A : hP) (x0 : Option Nat) : Option (Unit × hP) := f_X12_layLeft_0 N A x0
set_option maxRecDepth 20000 in
theorem c_X12_layLeft {l : Launch} (N : Nat) (A : hP) (x0 : Option Nat) (res : Unit × hP) (h : f_X12_layLeft N A x0 = some res) : Ct l mX12_layLeft 5 0 0 A [va_rf x0] (gu res) := Ct.of (lv := [(0, va_rf x0)]) (ls := [some (va_rf x0), none, none, none]) (by decide) (by simp [lv_args, g_cat_rf, cat_i, cat_l]) rfl (by simp [g_cat_rf, cat_i, cat_l]) (fun G => (t_X12_layLeft_0 N A x0 res h))
abbrev mX12_isOne : gM := gMk yX12_isOne cX12_isOne 7 (some .boolean)
def f_X12_isOne_84 (N : Nat) (r19 : hP → Option Nat → Int32 → Int32 → Int32 → Int32 → Option (Int32 × hP)) (r50 : hP → Option Nat → Int32 → Int32 → Int32 → Int32 → Int32 → Int32 → Option (Int32 × hP)) (A : hP) (x0 : Option Nat) (x1 : Int32) (x2 : Int32) (x3 : Int32) (x4 : Int32) (x6 : Int32) (s0 : Int32) : Option (Int32 × hP) := r50 A x0 x1 x2 x3 x4 s0 (x6 + (1 : Int32))
set_option maxRecDepth 20000 in
set_option maxHeartbeats 4000000 in
theorem t_X12_isOne_84 {l : Launch} {G : gS} (N : Nat) (r19 : hP → Option Nat → Int32 → Int32 → Int32 → Int32 → Option (Int32 × hP)) (hr19 : ∀ (A : hP) (x0 : Option Nat) (x1 : Int32) (x2 : Int32) (x3 : Int32) (x4 : Int32) (res : Int32 × hP), r19 A x0 x1 x2 x3 x4 = some res → AW l mX12_isOne (g_rm 5 0 0) G (g_Qf G (gi res) 0 0) A 0 0 19 [some (va_rf x0), some (.int x1), some (.int x2), some (.int x3), some (.int x4), none, none] []) (r50 : hP → Option Nat → Int32 → Int32 → Int32 → Int32 → Int32 → Int32 → Option (Int32 × hP)) (hr50 : ∀ (A : hP) (x0 : Option Nat) (x1 : Int32) (x2 : Int32) (x3 : Int32) (x4 : Int32) (x5 : Int32) (x6 : Int32) (res : Int32 × hP), r50 A x0 x1 x2 x3 x4 x5 x6 = some res → AW l mX12_isOne (g_rm 5 0 0) G (g_Qf G (gi res) 0 0) A 0 0 50 [some (va_rf x0), some (.int x1), some (.int x2), some (.int x3), some (.int x4), some (.int x5), some (.int x6)] []) (A : hP) (x0 : Option Nat) (x1 : Int32) (x2 : Int32) (x3 : Int32) (x4 : Int32) (x6 : Int32) (s0 : Int32) (res : Int32 × hP) (h : f_X12_isOne_84 N r19 r50 A x0 x1 x2 x3 x4 x6 s0 = some res) : AW l mX12_isOne (g_rm 5 0 0) G (g_Qf G (gi res) 0 0) A 0 0 84 [some (va_rf x0), some (.int x1), some (.int x2), some (.int x3), some (.int x4), none, some (.int x6)] [.int s0] := by
  unfold f_X12_isOne_84 at h
  refine AW_istore (ls' := [some (va_rf x0), some (.int x1), some (.int x2), some (.int x3), some (.int x4), some (.int s0), some (.int x6)]) dX12_isOne_84 (c1_i rfl) (by decide) rfl ?_
  refine AW_iinc (v := 1) (ls' := [some (va_rf x0), some (.int x1), some (.int x2), some (.int x3), some (.int x4), some (.int s0), some (.int (x6 + (1 : Int32)))]) dX12_isOne_86 rfl (c1_i rfl) (by decide) (by decide) rfl ?_
  refine AW_goto (tgt := 50) dX12_isOne_89 (by decide) ?_
  exact (hr50 _ _ _ _ _ _ _ _ _ h)
def f_X12_isOne_103 (N : Nat) (r19 : hP → Option Nat → Int32 → Int32 → Int32 → Int32 → Option (Int32 × hP)) (A : hP) (x0 : Option Nat) (x1 : Int32) (x2 : Int32) (x4 : Int32) (s0 : Int32) (s1 : Int32) : Option (Int32 × hP) := r19 A x0 x1 x2 (s0 + s1) (x4 + (1 : Int32))
set_option maxRecDepth 20000 in
set_option maxHeartbeats 4000000 in
theorem t_X12_isOne_103 {l : Launch} {G : gS} (N : Nat) (r19 : hP → Option Nat → Int32 → Int32 → Int32 → Int32 → Option (Int32 × hP)) (hr19 : ∀ (A : hP) (x0 : Option Nat) (x1 : Int32) (x2 : Int32) (x3 : Int32) (x4 : Int32) (res : Int32 × hP), r19 A x0 x1 x2 x3 x4 = some res → AW l mX12_isOne (g_rm 5 0 0) G (g_Qf G (gi res) 0 0) A 0 0 19 [some (va_rf x0), some (.int x1), some (.int x2), some (.int x3), some (.int x4), none, none] []) (A : hP) (x0 : Option Nat) (x1 : Int32) (x2 : Int32) (x4 : Int32) (s0 : Int32) (s1 : Int32) (res : Int32 × hP) (h : f_X12_isOne_103 N r19 A x0 x1 x2 x4 s0 s1 = some res) : AW l mX12_isOne (g_rm 5 0 0) G (g_Qf G (gi res) 0 0) A 0 0 103 [some (va_rf x0), some (.int x1), some (.int x2), none, some (.int x4), none, none] [.int s1, .int s0] := by
  unfold f_X12_isOne_103 at h
  refine AW_iadd dX12_isOne_103 ?_
  refine AW_istore_n (ls' := [some (va_rf x0), some (.int x1), some (.int x2), some (.int (s0 + s1)), some (.int x4), none, none]) dX12_isOne_104 (c1_i rfl) (by decide) rfl ?_
  refine AW_iinc (v := 1) (ls' := [some (va_rf x0), some (.int x1), some (.int x2), some (.int (s0 + s1)), some (.int (x4 + (1 : Int32))), none, none]) dX12_isOne_105 rfl (c1_i rfl) (by decide) (by decide) rfl ?_
  refine AW_goto (tgt := 19) dX12_isOne_108 (by decide) ?_
  exact (hr19 _ _ _ _ _ _ _ h)
def f_X12_isOne_92 (N : Nat) (r19 : hP → Option Nat → Int32 → Int32 → Int32 → Int32 → Option (Int32 × hP)) (A : hP) (x0 : Option Nat) (x1 : Int32) (x2 : Int32) (x3 : Int32) (x4 : Int32) (x5 : Int32) : Option (Int32 × hP) := if x5 = (0) then (f_X12_isOne_103 N r19 A x0 x1 x2 x4 x3 (0 : Int32)) else (f_X12_isOne_103 N r19 A x0 x1 x2 x4 x3 (1 : Int32))
set_option maxRecDepth 20000 in
set_option maxHeartbeats 4000000 in
theorem t_X12_isOne_92 {l : Launch} {G : gS} (N : Nat) (r19 : hP → Option Nat → Int32 → Int32 → Int32 → Int32 → Option (Int32 × hP)) (hr19 : ∀ (A : hP) (x0 : Option Nat) (x1 : Int32) (x2 : Int32) (x3 : Int32) (x4 : Int32) (res : Int32 × hP), r19 A x0 x1 x2 x3 x4 = some res → AW l mX12_isOne (g_rm 5 0 0) G (g_Qf G (gi res) 0 0) A 0 0 19 [some (va_rf x0), some (.int x1), some (.int x2), some (.int x3), some (.int x4), none, none] []) (A : hP) (x0 : Option Nat) (x1 : Int32) (x2 : Int32) (x3 : Int32) (x4 : Int32) (x5 : Int32) (res : Int32 × hP) (h : f_X12_isOne_92 N r19 A x0 x1 x2 x3 x4 x5 = some res) : AW l mX12_isOne (g_rm 5 0 0) G (g_Qf G (gi res) 0 0) A 0 0 92 [some (va_rf x0), some (.int x1), some (.int x2), some (.int x3), some (.int x4), some (.int x5), none] [] := by
  unfold f_X12_isOne_92 at h
  refine AW_iload_n dX12_isOne_92 rfl ?_
  refine AW_iload dX12_isOne_93 rfl ?_
  refine AW_if_eq (tgt := 102) dX12_isOne_95 (by decide) h (fun _ h => ?_) (fun _ h => ?_)
  · refine AW_iconst (v := 0) dX12_isOne_102 (by decide) ?_
    exact AW_fewer (fw_k (fw_k (fw_k (fw_d (fw_k (fw_d (fw_k fw_n))))))) (t_X12_isOne_103 N r19 hr19 _ _ _ _ _ _ _ _ h)
  · refine AW_iconst (v := 1) dX12_isOne_98 (by decide) ?_
    refine AW_goto (tgt := 103) dX12_isOne_99 (by decide) ?_
    exact AW_fewer (fw_k (fw_k (fw_k (fw_d (fw_k (fw_d (fw_k fw_n))))))) (t_X12_isOne_103 N r19 hr19 _ _ _ _ _ _ _ _ h)
def f_X12_isOne_50 (N : Nat) (r19 : hP → Option Nat → Int32 → Int32 → Int32 → Int32 → Option (Int32 × hP)) : Nat → hP → Option Nat → Int32 → Int32 → Int32 → Int32 → Int32 → Int32 → Option (Int32 × hP)
  | 0, _, _, _, _, _, _, _, _ => none
  | n + 1, A, x0, x1, x2, x3, x4, x5, x6 => if (x2 + x1) ≤ x6 then (f_X12_isOne_92 N r19 A x0 x1 x2 x3 x4 x5) else (if x5 = (0) then (f_X12_isOne_92 N r19 A x0 x1 x2 x3 x4 x5) else ((oCk A x0 11).bind fun _ => (f_X12_shows N A x0 x6).bind fun q1 => (oR q1.2 x0 11 23).bind fun v2 => (oA q1.2 v2 0 x6).bind fun v3 => if q1.1 = v3 then (f_X12_isOne_84 N r19 (f_X12_isOne_50 N r19 n) q1.2 x0 x1 x2 x3 x4 x6 (1 : Int32)) else (f_X12_isOne_84 N r19 (f_X12_isOne_50 N r19 n) q1.2 x0 x1 x2 x3 x4 x6 (0 : Int32))))
set_option maxRecDepth 20000 in
set_option maxHeartbeats 4000000 in
theorem t_X12_isOne_50 {l : Launch} {G : gS} (N : Nat) (r19 : hP → Option Nat → Int32 → Int32 → Int32 → Int32 → Option (Int32 × hP)) (hr19 : ∀ (A : hP) (x0 : Option Nat) (x1 : Int32) (x2 : Int32) (x3 : Int32) (x4 : Int32) (res : Int32 × hP), r19 A x0 x1 x2 x3 x4 = some res → AW l mX12_isOne (g_rm 5 0 0) G (g_Qf G (gi res) 0 0) A 0 0 19 [some (va_rf x0), some (.int x1), some (.int x2), some (.int x3), some (.int x4), none, none] []) : ∀ (n : Nat) (A : hP) (x0 : Option Nat) (x1 : Int32) (x2 : Int32) (x3 : Int32) (x4 : Int32) (x5 : Int32) (x6 : Int32) (res : Int32 × hP), f_X12_isOne_50 N r19 n A x0 x1 x2 x3 x4 x5 x6 = some res → AW l mX12_isOne (g_rm 5 0 0) G (g_Qf G (gi res) 0 0) A 0 0 50 [some (va_rf x0), some (.int x1), some (.int x2), some (.int x3), some (.int x4), some (.int x5), some (.int x6)] [] := by
  intro n
  induction n with
  | zero => intro A x0 x1 x2 x3 x4 x5 x6 res h; cases h
  | succ n ih =>
    intro A x0 x1 x2 x3 x4 x5 x6 res h
    rw [f_X12_isOne_50] at h
    refine AW_iload dX12_isOne_50 rfl ?_
    refine AW_iload_n dX12_isOne_52 rfl ?_
    refine AW_iload_n dX12_isOne_53 rfl ?_
    refine AW_iadd dX12_isOne_54 ?_
    refine AW_icmp_ge (tgt := 92) dX12_isOne_55 (by decide) h (fun _ h => ?_) (fun _ h => ?_)
    · exact AW_fewer (fw_k (fw_k (fw_k (fw_k (fw_k (fw_k (fw_d fw_n))))))) (t_X12_isOne_92 N r19 hr19 _ _ _ _ _ _ _ _ h)
    · refine AW_iload dX12_isOne_58 rfl ?_
      refine AW_if_eq (tgt := 92) dX12_isOne_60 (by decide) h (fun _ h => ?_) (fun _ h => ?_)
      · exact AW_fewer (fw_k (fw_k (fw_k (fw_k (fw_k (fw_k (fw_d fw_n))))))) (t_X12_isOne_92 N r19 hr19 _ _ _ _ _ _ _ _ h)
      · refine AW_aload_n dX12_isOne_63 rfl ?_
        refine AW_iload dX12_isOne_64 rfl ?_
        refine AW_callVi (y := yX12_shows) (cc := cX12_shows) (n := 5) (d := 3) (mc := 0) (ms := 0) (np := 1) (ret := (some .int)) (As := [.int x6]) (st := []) (ci := 11) dX12_isOne_66 gT_s rfl tM_X12_206 tI_X12_shows selp_X12_shows tIni_X12 tY_X12_shows (by decide +kernel) ⟨by decide, by decide⟩ ⟨by decide, by decide⟩ (Nat.le_of_ble_eq_true rfl) rfl h (fun q hq => c_X12_shows N _ _ _ q hq) (fun q1 _ h => ?_)
        refine AW_aload_n dX12_isOne_69 rfl ?_
        refine AW_getR (ci := 11) (k0 := 23) (C := RX12) (T := TX12) (N := 31) dX12_isOne_70 rfl (gT_u tU_X12) (by decide) (List.mem_cons_of_mem _ tF_X12_34) h (fun v2 _ h => ?_)
        refine AW_iload dX12_isOne_73 rfl ?_
        refine AW_iald dX12_isOne_75 h (fun v3 _ h => ?_)
        refine AW_icmp_ne (tgt := 83) dX12_isOne_76 (by decide) h (fun _ h => ?_) (fun _ h => ?_)
        · refine AW_iconst (v := 0) dX12_isOne_83 (by decide) ?_
          exact AW_fewer (fw_k (fw_k (fw_k (fw_k (fw_k (fw_d (fw_k fw_n))))))) (t_X12_isOne_84 N r19 hr19 (f_X12_isOne_50 N r19 n) ih _ _ _ _ _ _ _ _ _ h)
        · refine AW_iconst (v := 1) dX12_isOne_79 (by decide) ?_
          refine AW_goto (tgt := 84) dX12_isOne_80 (by decide) ?_
          exact AW_fewer (fw_k (fw_k (fw_k (fw_k (fw_k (fw_d (fw_k fw_n))))))) (t_X12_isOne_84 N r19 hr19 (f_X12_isOne_50 N r19 n) ih _ _ _ _ _ _ _ _ _ h)
def f_X12_isOne_121 (N : Nat) (A : hP) (s0 : Int32) : Option (Int32 × hP) := if s0 = 0 ∨ s0 = 1 then some (s0, A) else none
set_option maxRecDepth 20000 in
set_option maxHeartbeats 4000000 in
theorem t_X12_isOne_121 {l : Launch} {G : gS} (N : Nat) (A : hP) (s0 : Int32) (res : Int32 × hP) (h : f_X12_isOne_121 N A s0 = some res) : AW l mX12_isOne (g_rm 5 0 0) G (g_Qf G (gi res) 0 0) A 0 0 121 [none, none, none, none, none, none, none] [.int s0] := by
  unfold f_X12_isOne_121 at h
  exact AW_zret dX12_isOne_121 rfl ⟨Nat.zero_le _, Nat.zero_le _⟩ h
def f_X12_isOne_111 (N : Nat) (A : hP) (x3 : Int32) : Option (Int32 × hP) := if x3 = (1 : Int32) then (f_X12_isOne_121 N A (1 : Int32)) else (f_X12_isOne_121 N A (0 : Int32))
set_option maxRecDepth 20000 in
set_option maxHeartbeats 4000000 in
theorem t_X12_isOne_111 {l : Launch} {G : gS} (N : Nat) (A : hP) (x3 : Int32) (res : Int32 × hP) (h : f_X12_isOne_111 N A x3 = some res) : AW l mX12_isOne (g_rm 5 0 0) G (g_Qf G (gi res) 0 0) A 0 0 111 [none, none, none, some (.int x3), none, none, none] [] := by
  unfold f_X12_isOne_111 at h
  refine AW_iload_n dX12_isOne_111 rfl ?_
  refine AW_iconst (v := 1) dX12_isOne_112 (by decide) ?_
  refine AW_icmp_ne (tgt := 120) dX12_isOne_113 (by decide) h (fun _ h => ?_) (fun _ h => ?_)
  · refine AW_iconst (v := 0) dX12_isOne_120 (by decide) ?_
    exact AW_fewer (fw_k (fw_k (fw_k (fw_d (fw_k (fw_k (fw_k fw_n))))))) (t_X12_isOne_121 N _ _ _ h)
  · refine AW_iconst (v := 1) dX12_isOne_116 (by decide) ?_
    refine AW_goto (tgt := 121) dX12_isOne_117 (by decide) ?_
    exact AW_fewer (fw_k (fw_k (fw_k (fw_d (fw_k (fw_k (fw_k fw_n))))))) (t_X12_isOne_121 N _ _ _ h)
def f_X12_isOne_19 (N : Nat) : Nat → hP → Option Nat → Int32 → Int32 → Int32 → Int32 → Option (Int32 × hP)
  | 0, _, _, _, _, _, _ => none
  | n + 1, A, x0, x1, x2, x3, x4 => (oI A x0 11 22).bind fun v4 => if v4 ≤ x4 then (f_X12_isOne_111 N A x3) else (if (2 : Int32) ≤ x3 then (f_X12_isOne_111 N A x3) else ((oR A x0 11 21).bind fun v5 => (oA A v5 0 x4).bind fun v6 => (oCk A x0 11).bind fun _ => (f_X12_layWorld N A x0 v6).bind fun q7 => f_X12_isOne_50 N (f_X12_isOne_19 N n) N q7.2 x0 x1 x2 x3 x4 (1 : Int32) x2))
set_option maxRecDepth 20000 in
set_option maxHeartbeats 4000000 in
theorem t_X12_isOne_19 {l : Launch} {G : gS} (N : Nat) : ∀ (n : Nat) (A : hP) (x0 : Option Nat) (x1 : Int32) (x2 : Int32) (x3 : Int32) (x4 : Int32) (res : Int32 × hP), f_X12_isOne_19 N n A x0 x1 x2 x3 x4 = some res → AW l mX12_isOne (g_rm 5 0 0) G (g_Qf G (gi res) 0 0) A 0 0 19 [some (va_rf x0), some (.int x1), some (.int x2), some (.int x3), some (.int x4), none, none] [] := by
  intro n
  induction n with
  | zero => intro A x0 x1 x2 x3 x4 res h; cases h
  | succ n ih =>
    intro A x0 x1 x2 x3 x4 res h
    rw [f_X12_isOne_19] at h
    refine AW_iload dX12_isOne_19 rfl ?_
    refine AW_aload_n dX12_isOne_21 rfl ?_
    refine AW_getI (ci := 11) (k0 := 22) (C := RX12) (T := TX12) (N := 31) dX12_isOne_22 rfl (gT_u tU_X12) (by decide) (List.mem_cons_of_mem _ tF_X12_243) h (fun v4 _ h => ?_)
    refine AW_icmp_ge (tgt := 111) dX12_isOne_25 (by decide) h (fun _ h => ?_) (fun _ h => ?_)
    · exact AW_fewer (fw_d (fw_d (fw_d (fw_k (fw_d (fw_k (fw_k fw_n))))))) (t_X12_isOne_111 N _ _ _ h)
    · refine AW_iload_n dX12_isOne_28 rfl ?_
      refine AW_iconst (v := 2) dX12_isOne_29 (by decide) ?_
      refine AW_icmp_ge (tgt := 111) dX12_isOne_30 (by decide) h (fun _ h => ?_) (fun _ h => ?_)
      · exact AW_fewer (fw_d (fw_d (fw_d (fw_k (fw_d (fw_k (fw_k fw_n))))))) (t_X12_isOne_111 N _ _ _ h)
      · refine AW_aload_n dX12_isOne_33 rfl ?_
        refine AW_aload_n dX12_isOne_34 rfl ?_
        refine AW_getR (ci := 11) (k0 := 21) (C := RX12) (T := TX12) (N := 31) dX12_isOne_35 rfl (gT_u tU_X12) (by decide) (List.mem_cons_of_mem _ tF_X12_31) h (fun v5 _ h => ?_)
        refine AW_iload dX12_isOne_38 rfl ?_
        refine AW_iald dX12_isOne_40 h (fun v6 _ h => ?_)
        refine AW_callVu (y := yX12_layWorld) (cc := cX12_layWorld) (n := 3) (d := 0) (mc := 0) (ms := 0) (np := 1) (ret := none) (As := [.int v6]) (st := []) (ci := 11) dX12_isOne_41 gT_s rfl tM_X12_228 tI_X12_layWorld selp_X12_layWorld tIni_X12 tY_X12_layWorld (by decide +kernel) ⟨by decide, by decide⟩ ⟨by decide, by decide⟩ (Nat.le_of_ble_eq_true rfl) rfl h (fun q hq => c_X12_layWorld N _ _ _ q hq) (fun q7 _ h => ?_)
        refine AW_iconst (v := 1) dX12_isOne_44 (by decide) ?_
        refine AW_istore (ls' := [some (va_rf x0), some (.int x1), some (.int x2), some (.int x3), some (.int x4), some (.int (1 : Int32)), none]) dX12_isOne_45 (c1_i rfl) (by decide) rfl ?_
        refine AW_iload_n dX12_isOne_47 rfl ?_
        refine AW_istore (ls' := [some (va_rf x0), some (.int x1), some (.int x2), some (.int x3), some (.int x4), some (.int (1 : Int32)), some (.int x2)]) dX12_isOne_48 (c1_i rfl) (by decide) rfl ?_
        exact (t_X12_isOne_50 N (f_X12_isOne_19 N n) ih N _ _ _ _ _ _ _ _ _ h)
def f_X12_isOne_0 (N : Nat) (A : hP) (x0 : Option Nat) (x1 : Int32) : Option (Int32 × hP) := (oR A x0 11 5).bind fun v8 => (oA A v8 0 (4 : Int32)).bind fun v9 => (oCk A x0 11).bind fun _ => (f_X12_layTrulyShown N A x0 (v9 + x1)).bind fun q10 => f_X12_isOne_19 N N q10.2 x0 x1 v9 (0 : Int32) (0 : Int32)
set_option maxRecDepth 20000 in
set_option maxHeartbeats 4000000 in
theorem t_X12_isOne_0 {l : Launch} {G : gS} (N : Nat) (A : hP) (x0 : Option Nat) (x1 : Int32) (res : Int32 × hP) (h : f_X12_isOne_0 N A x0 x1 = some res) : AW l mX12_isOne (g_rm 5 0 0) G (g_Qf G (gi res) 0 0) A 0 0 0 [some (va_rf x0), some (.int x1), none, none, none, none, none] [] := by
  unfold f_X12_isOne_0 at h
  refine AW_aload_n dX12_isOne_0 rfl ?_
  refine AW_getR (ci := 11) (k0 := 5) (C := RX12) (T := TX12) (N := 31) dX12_isOne_1 rfl (gT_u tU_X12) (by decide) (List.mem_cons_of_mem _ tF_X12_19) h (fun v8 _ h => ?_)
  refine AW_iconst (v := 4) dX12_isOne_4 (by decide) ?_
  refine AW_iald dX12_isOne_5 h (fun v9 _ h => ?_)
  refine AW_istore_n (ls' := [some (va_rf x0), some (.int x1), some (.int v9), none, none, none, none]) dX12_isOne_6 (c1_i rfl) (by decide) rfl ?_
  refine AW_aload_n dX12_isOne_7 rfl ?_
  refine AW_iload_n dX12_isOne_8 rfl ?_
  refine AW_iload_n dX12_isOne_9 rfl ?_
  refine AW_iadd dX12_isOne_10 ?_
  refine AW_callVu (y := yX12_layTrulyShown) (cc := cX12_layTrulyShown) (n := 3) (d := 4) (mc := 0) (ms := 0) (np := 1) (ret := none) (As := [.int (v9 + x1)]) (st := []) (ci := 11) dX12_isOne_11 gT_s rfl tM_X12_240 tI_X12_layTrulyShown selp_X12_layTrulyShown tIni_X12 tY_X12_layTrulyShown (by decide +kernel) ⟨by decide, by decide⟩ ⟨by decide, by decide⟩ (Nat.le_of_ble_eq_true rfl) rfl h (fun q hq => c_X12_layTrulyShown N _ _ _ q hq) (fun q10 _ h => ?_)
  refine AW_iconst (v := 0) dX12_isOne_14 (by decide) ?_
  refine AW_istore_n (ls' := [some (va_rf x0), some (.int x1), some (.int v9), some (.int (0 : Int32)), none, none, none]) dX12_isOne_15 (c1_i rfl) (by decide) rfl ?_
  refine AW_iconst (v := 0) dX12_isOne_16 (by decide) ?_
  refine AW_istore (ls' := [some (va_rf x0), some (.int x1), some (.int v9), some (.int (0 : Int32)), some (.int (0 : Int32)), none, none]) dX12_isOne_17 (c1_i rfl) (by decide) rfl ?_
  exact (t_X12_isOne_19 N N _ _ _ _ _ _ _ h)
def f_X12_isOne (N : Nat) (A : hP) (x0 : Option Nat) (x1 : Int32) : Option (Int32 × hP) := f_X12_isOne_0 N A x0 x1
set_option maxRecDepth 20000 in
theorem c_X12_isOne {l : Launch} (N : Nat) (A : hP) (x0 : Option Nat) (x1 : Int32) (res : Int32 × hP) (h : f_X12_isOne N A x0 x1 = some res) : Ct l mX12_isOne 5 0 0 A [va_rf x0, .int x1] (gi res) := Ct.of (lv := [(0, va_rf x0), (1, .int x1)]) (ls := [some (va_rf x0), some (.int x1), none, none, none, none, none]) (by decide) (by simp [lv_args, g_cat_rf, cat_i, cat_l]) rfl (by simp [g_cat_rf, cat_i, cat_l]) (fun G => (t_X12_isOne_0 N A x0 x1 res h))
abbrev mX12_laySoon : gM := gMk yX12_laySoon cX12_laySoon 4 none
def f_X12_laySoon_84 (N : Nat) : Nat → hP → Option Nat → Int32 → Int32 → Int32 → Option (Unit × hP)
  | 0, _, _, _, _, _ => none
  | n + 1, A, x0, x1, x2, x3 => if (x2 * x2) ≤ x3 then (some ((), A)) else ((oR A x0 11 5).bind fun v1 => (oDv x3 x2).bind fun v2 => (oS A v1 0 ((13 : Int32) + x1) v2).bind fun A3 => (oR A3 x0 11 5).bind fun v4 => (oRm x3 x2).bind fun v5 => (oS A3 v4 0 (((13 : Int32) + x1) + (1 : Int32)) v5).bind fun A6 => (oCk A6 x0 11).bind fun _ => (f_X12_isOne N A6 x0 (2 : Int32)).bind fun q7 => if q7.1 = (0) then (f_X12_laySoon_84 N n q7.2 x0 x1 x2 (x3 + (1 : Int32))) else ((oP q7.2 x0 11 24 (.int (2 : Int32))).bind fun A8 => (oDv x3 x2).bind fun v9 => (oP A8 x0 11 25 (.int v9)).bind fun A10 => (oRm x3 x2).bind fun v11 => (oP A10 x0 11 26 (.int v11)).bind fun A12 => some ((), A12)))
set_option maxRecDepth 20000 in
set_option maxHeartbeats 4000000 in
theorem t_X12_laySoon_84 {l : Launch} {G : gS} (N : Nat) : ∀ (n : Nat) (A : hP) (x0 : Option Nat) (x1 : Int32) (x2 : Int32) (x3 : Int32) (res : Unit × hP), f_X12_laySoon_84 N n A x0 x1 x2 x3 = some res → AW l mX12_laySoon (g_rm 6 0 0) G (g_Qf G (gu res) 0 0) A 0 0 84 [some (va_rf x0), some (.int x1), some (.int x2), some (.int x3)] [] := by
  intro n
  induction n with
  | zero => intro A x0 x1 x2 x3 res h; cases h
  | succ n ih =>
    intro A x0 x1 x2 x3 res h
    rw [f_X12_laySoon_84] at h
    refine AW_iload_n dX12_laySoon_84 rfl ?_
    refine AW_iload_n dX12_laySoon_85 rfl ?_
    refine AW_iload_n dX12_laySoon_86 rfl ?_
    refine AW_imul dX12_laySoon_87 ?_
    refine AW_icmp_ge (tgt := 151) dX12_laySoon_88 (by decide) h (fun _ h => ?_) (fun _ h => ?_)
    · exact AW_vret dX12_laySoon_151 rfl ⟨Nat.zero_le _, Nat.zero_le _⟩ h
    · refine AW_aload_n dX12_laySoon_91 rfl ?_
      refine AW_getR (ci := 11) (k0 := 5) (C := RX12) (T := TX12) (N := 31) dX12_laySoon_92 rfl (gT_u tU_X12) (by decide) (List.mem_cons_of_mem _ tF_X12_19) h (fun v1 _ h => ?_)
      refine AW_bipush (v := 13) dX12_laySoon_95 (by decide) ?_
      refine AW_iload_n dX12_laySoon_97 rfl ?_
      refine AW_iadd dX12_laySoon_98 ?_
      refine AW_iload_n dX12_laySoon_99 rfl ?_
      refine AW_iload_n dX12_laySoon_100 rfl ?_
      refine AW_div dX12_laySoon_101 h (fun v2 _ h => ?_)
      refine AW_iast dX12_laySoon_102 h (fun A3 _ h => ?_)
      refine AW_aload_n dX12_laySoon_103 rfl ?_
      refine AW_getR (ci := 11) (k0 := 5) (C := RX12) (T := TX12) (N := 31) dX12_laySoon_104 rfl (gT_u tU_X12) (by decide) (List.mem_cons_of_mem _ tF_X12_19) h (fun v4 _ h => ?_)
      refine AW_bipush (v := 13) dX12_laySoon_107 (by decide) ?_
      refine AW_iload_n dX12_laySoon_109 rfl ?_
      refine AW_iadd dX12_laySoon_110 ?_
      refine AW_iconst (v := 1) dX12_laySoon_111 (by decide) ?_
      refine AW_iadd dX12_laySoon_112 ?_
      refine AW_iload_n dX12_laySoon_113 rfl ?_
      refine AW_iload_n dX12_laySoon_114 rfl ?_
      refine AW_rem dX12_laySoon_115 h (fun v5 _ h => ?_)
      refine AW_iast dX12_laySoon_116 h (fun A6 _ h => ?_)
      refine AW_aload_n dX12_laySoon_117 rfl ?_
      refine AW_iconst (v := 2) dX12_laySoon_118 (by decide) ?_
      refine AW_callVi (y := yX12_isOne) (cc := cX12_isOne) (n := 7) (d := 5) (mc := 0) (ms := 0) (np := 1) (ret := (some .boolean)) (As := [.int (2 : Int32)]) (st := []) (ci := 11) dX12_laySoon_119 gT_s rfl tM_X12_252 tI_X12_isOne selp_X12_isOne tIni_X12 tY_X12_isOne (by decide +kernel) ⟨by decide, by decide⟩ ⟨by decide, by decide⟩ (Nat.le_of_ble_eq_true rfl) rfl h (fun q hq => c_X12_isOne N _ _ _ q hq) (fun q7 _ h => ?_)
      refine AW_if_eq (tgt := 145) dX12_laySoon_122 (by decide) h (fun _ h => ?_) (fun _ h => ?_)
      · refine AW_iinc (v := 1) (ls' := [some (va_rf x0), some (.int x1), some (.int x2), some (.int (x3 + (1 : Int32)))]) dX12_laySoon_145 rfl (c1_i rfl) (by decide) (by decide) rfl ?_
        refine AW_goto (tgt := 84) dX12_laySoon_148 (by decide) ?_
        exact (ih _ _ _ _ _ _ h)
      · refine AW_aload_n dX12_laySoon_125 rfl ?_
        refine AW_iconst (v := 2) dX12_laySoon_126 (by decide) ?_
        refine AW_put (ci := 11) (k0 := 24) (C := RX12) (T := TX12) (N := 31) (ty0 := tyX12) dX12_laySoon_127 rfl (gT_u tU_X12) tyX12_ok nmX12 (by decide) (List.mem_cons_of_mem _ tF_X12_246) (Or.inl rfl) rfl rfl h (fun A8 _ h => ?_)
        refine AW_aload_n dX12_laySoon_130 rfl ?_
        refine AW_iload_n dX12_laySoon_131 rfl ?_
        refine AW_iload_n dX12_laySoon_132 rfl ?_
        refine AW_div dX12_laySoon_133 h (fun v9 _ h => ?_)
        refine AW_put (ci := 11) (k0 := 25) (C := RX12) (T := TX12) (N := 31) (ty0 := tyX12) dX12_laySoon_134 rfl (gT_u tU_X12) tyX12_ok nmX12 (by decide) (List.mem_cons_of_mem _ tF_X12_255) (Or.inl rfl) rfl rfl h (fun A10 _ h => ?_)
        refine AW_aload_n dX12_laySoon_137 rfl ?_
        refine AW_iload_n dX12_laySoon_138 rfl ?_
        refine AW_iload_n dX12_laySoon_139 rfl ?_
        refine AW_rem dX12_laySoon_140 h (fun v11 _ h => ?_)
        refine AW_put (ci := 11) (k0 := 26) (C := RX12) (T := TX12) (N := 31) (ty0 := tyX12) dX12_laySoon_141 rfl (gT_u tU_X12) tyX12_ok nmX12 (by decide) (List.mem_cons_of_mem _ tF_X12_258) (Or.inl rfl) rfl rfl h (fun A12 _ h => ?_)
        exact AW_vret dX12_laySoon_144 rfl ⟨Nat.zero_le _, Nat.zero_le _⟩ h
def f_X12_laySoon_42 (N : Nat) : Nat → hP → Option Nat → Int32 → Int32 → Int32 → Option (Unit × hP)
  | 0, _, _, _, _, _ => none
  | n + 1, A, x0, x1, x2, x3 => if x2 ≤ x3 then (f_X12_laySoon_84 N N A x0 x1 x2 (0 : Int32)) else ((oR A x0 11 5).bind fun v13 => (oS A v13 0 ((13 : Int32) + x1) x3).bind fun A14 => (oCk A14 x0 11).bind fun _ => (f_X12_isOne N A14 x0 (1 : Int32)).bind fun q15 => if q15.1 = (0) then (f_X12_laySoon_42 N n q15.2 x0 x1 x2 (x3 + (1 : Int32))) else ((oP q15.2 x0 11 24 (.int (1 : Int32))).bind fun A16 => (oP A16 x0 11 25 (.int x3)).bind fun A17 => some ((), A17)))
set_option maxRecDepth 20000 in
set_option maxHeartbeats 4000000 in
theorem t_X12_laySoon_42 {l : Launch} {G : gS} (N : Nat) : ∀ (n : Nat) (A : hP) (x0 : Option Nat) (x1 : Int32) (x2 : Int32) (x3 : Int32) (res : Unit × hP), f_X12_laySoon_42 N n A x0 x1 x2 x3 = some res → AW l mX12_laySoon (g_rm 6 0 0) G (g_Qf G (gu res) 0 0) A 0 0 42 [some (va_rf x0), some (.int x1), some (.int x2), some (.int x3)] [] := by
  intro n
  induction n with
  | zero => intro A x0 x1 x2 x3 res h; cases h
  | succ n ih =>
    intro A x0 x1 x2 x3 res h
    rw [f_X12_laySoon_42] at h
    refine AW_iload_n dX12_laySoon_42 rfl ?_
    refine AW_iload_n dX12_laySoon_43 rfl ?_
    refine AW_icmp_ge (tgt := 82) dX12_laySoon_44 (by decide) h (fun _ h => ?_) (fun _ h => ?_)
    · refine AW_iconst (v := 0) dX12_laySoon_82 (by decide) ?_
      refine AW_istore_n (ls' := [some (va_rf x0), some (.int x1), some (.int x2), some (.int (0 : Int32))]) dX12_laySoon_83 (c1_i rfl) (by decide) rfl ?_
      exact (t_X12_laySoon_84 N N _ _ _ _ _ _ h)
    · refine AW_aload_n dX12_laySoon_47 rfl ?_
      refine AW_getR (ci := 11) (k0 := 5) (C := RX12) (T := TX12) (N := 31) dX12_laySoon_48 rfl (gT_u tU_X12) (by decide) (List.mem_cons_of_mem _ tF_X12_19) h (fun v13 _ h => ?_)
      refine AW_bipush (v := 13) dX12_laySoon_51 (by decide) ?_
      refine AW_iload_n dX12_laySoon_53 rfl ?_
      refine AW_iadd dX12_laySoon_54 ?_
      refine AW_iload_n dX12_laySoon_55 rfl ?_
      refine AW_iast dX12_laySoon_56 h (fun A14 _ h => ?_)
      refine AW_aload_n dX12_laySoon_57 rfl ?_
      refine AW_iconst (v := 1) dX12_laySoon_58 (by decide) ?_
      refine AW_callVi (y := yX12_isOne) (cc := cX12_isOne) (n := 7) (d := 5) (mc := 0) (ms := 0) (np := 1) (ret := (some .boolean)) (As := [.int (1 : Int32)]) (st := []) (ci := 11) dX12_laySoon_59 gT_s rfl tM_X12_252 tI_X12_isOne selp_X12_isOne tIni_X12 tY_X12_isOne (by decide +kernel) ⟨by decide, by decide⟩ ⟨by decide, by decide⟩ (Nat.le_of_ble_eq_true rfl) rfl h (fun q hq => c_X12_isOne N _ _ _ q hq) (fun q15 _ h => ?_)
      refine AW_if_eq (tgt := 76) dX12_laySoon_62 (by decide) h (fun _ h => ?_) (fun _ h => ?_)
      · refine AW_iinc (v := 1) (ls' := [some (va_rf x0), some (.int x1), some (.int x2), some (.int (x3 + (1 : Int32)))]) dX12_laySoon_76 rfl (c1_i rfl) (by decide) (by decide) rfl ?_
        refine AW_goto (tgt := 42) dX12_laySoon_79 (by decide) ?_
        exact (ih _ _ _ _ _ _ h)
      · refine AW_aload_n dX12_laySoon_65 rfl ?_
        refine AW_iconst (v := 1) dX12_laySoon_66 (by decide) ?_
        refine AW_put (ci := 11) (k0 := 24) (C := RX12) (T := TX12) (N := 31) (ty0 := tyX12) dX12_laySoon_67 rfl (gT_u tU_X12) tyX12_ok nmX12 (by decide) (List.mem_cons_of_mem _ tF_X12_246) (Or.inl rfl) rfl rfl h (fun A16 _ h => ?_)
        refine AW_aload_n dX12_laySoon_70 rfl ?_
        refine AW_iload_n dX12_laySoon_71 rfl ?_
        refine AW_put (ci := 11) (k0 := 25) (C := RX12) (T := TX12) (N := 31) (ty0 := tyX12) dX12_laySoon_72 rfl (gT_u tU_X12) tyX12_ok nmX12 (by decide) (List.mem_cons_of_mem _ tF_X12_255) (Or.inl rfl) rfl rfl h (fun A17 _ h => ?_)
        exact AW_vret dX12_laySoon_75 rfl ⟨Nat.zero_le _, Nat.zero_le _⟩ h
def f_X12_laySoon_0 (N : Nat) (A : hP) (x0 : Option Nat) : Option (Unit × hP) := (oP A x0 11 24 (.int (-1000000 : Int32))).bind fun A18 => (oCk A18 x0 11).bind fun _ => (f_X12_layLeft N A18 x0).bind fun q19 => (oR q19.2 x0 11 5).bind fun v20 => (oA q19.2 v20 0 (4 : Int32)).bind fun v21 => (oR q19.2 x0 11 5).bind fun v22 => (oA q19.2 v22 0 (3 : Int32)).bind fun v23 => (oI q19.2 x0 11 22).bind fun v24 => if v24 = (1 : Int32) then ((oP q19.2 x0 11 24 (.int (0 : Int32))).bind fun A25 => some ((), A25)) else (f_X12_laySoon_42 N N q19.2 x0 v21 ((1 : Int32) <<< (v23 &&& 31)) (0 : Int32))
set_option maxRecDepth 20000 in
set_option maxHeartbeats 4000000 in
theorem t_X12_laySoon_0 {l : Launch} {G : gS} (N : Nat) (A : hP) (x0 : Option Nat) (res : Unit × hP) (h : f_X12_laySoon_0 N A x0 = some res) : AW l mX12_laySoon (g_rm 6 0 0) G (g_Qf G (gu res) 0 0) A 0 0 0 [some (va_rf x0), none, none, none] [] := by
  unfold f_X12_laySoon_0 at h
  refine AW_aload_n dX12_laySoon_0 rfl ?_
  refine AW_ldc (v := -1000000) dX12_laySoon_1 (List.mem_cons_of_mem _ tK_X12_83) ?_
  refine AW_put (ci := 11) (k0 := 24) (C := RX12) (T := TX12) (N := 31) (ty0 := tyX12) dX12_laySoon_3 rfl (gT_u tU_X12) tyX12_ok nmX12 (by decide) (List.mem_cons_of_mem _ tF_X12_246) (Or.inl rfl) rfl rfl h (fun A18 _ h => ?_)
  refine AW_aload_n dX12_laySoon_6 rfl ?_
  refine AW_callVu (y := yX12_layLeft) (cc := cX12_layLeft) (n := 4) (d := 5) (mc := 0) (ms := 0) (np := 0) (ret := none) (As := []) (st := []) (ci := 11) dX12_laySoon_7 gT_s rfl tM_X12_249 tI_X12_layLeft selp_X12_layLeft tIni_X12 tY_X12_layLeft (by decide +kernel) ⟨by decide, by decide⟩ ⟨by decide, by decide⟩ (Nat.le_of_ble_eq_true rfl) rfl h (fun q hq => c_X12_layLeft N _ _ q hq) (fun q19 _ h => ?_)
  refine AW_aload_n dX12_laySoon_10 rfl ?_
  refine AW_getR (ci := 11) (k0 := 5) (C := RX12) (T := TX12) (N := 31) dX12_laySoon_11 rfl (gT_u tU_X12) (by decide) (List.mem_cons_of_mem _ tF_X12_19) h (fun v20 _ h => ?_)
  refine AW_iconst (v := 4) dX12_laySoon_14 (by decide) ?_
  refine AW_iald dX12_laySoon_15 h (fun v21 _ h => ?_)
  refine AW_istore_n (ls' := [some (va_rf x0), some (.int v21), none, none]) dX12_laySoon_16 (c1_r rfl) (by decide) rfl ?_
  refine AW_iconst (v := 1) dX12_laySoon_17 (by decide) ?_
  refine AW_aload_n dX12_laySoon_18 rfl ?_
  refine AW_getR (ci := 11) (k0 := 5) (C := RX12) (T := TX12) (N := 31) dX12_laySoon_19 rfl (gT_u tU_X12) (by decide) (List.mem_cons_of_mem _ tF_X12_19) h (fun v22 _ h => ?_)
  refine AW_iconst (v := 3) dX12_laySoon_22 (by decide) ?_
  refine AW_iald dX12_laySoon_23 h (fun v23 _ h => ?_)
  refine AW_ishl dX12_laySoon_24 ?_
  refine AW_istore_n (ls' := [some (va_rf x0), some (.int v21), some (.int ((1 : Int32) <<< (v23 &&& 31))), none]) dX12_laySoon_25 (c1_i rfl) (by decide) rfl ?_
  refine AW_aload_n dX12_laySoon_26 rfl ?_
  refine AW_getI (ci := 11) (k0 := 22) (C := RX12) (T := TX12) (N := 31) dX12_laySoon_27 rfl (gT_u tU_X12) (by decide) (List.mem_cons_of_mem _ tF_X12_243) h (fun v24 _ h => ?_)
  refine AW_iconst (v := 1) dX12_laySoon_30 (by decide) ?_
  refine AW_icmp_ne (tgt := 40) dX12_laySoon_31 (by decide) h (fun _ h => ?_) (fun _ h => ?_)
  · refine AW_iconst (v := 0) dX12_laySoon_40 (by decide) ?_
    refine AW_istore_n (ls' := [some (va_rf x0), some (.int v21), some (.int ((1 : Int32) <<< (v23 &&& 31))), some (.int (0 : Int32))]) dX12_laySoon_41 (c1_i rfl) (by decide) rfl ?_
    exact (t_X12_laySoon_42 N N _ _ _ _ _ _ h)
  · refine AW_aload_n dX12_laySoon_34 rfl ?_
    refine AW_iconst (v := 0) dX12_laySoon_35 (by decide) ?_
    refine AW_put (ci := 11) (k0 := 24) (C := RX12) (T := TX12) (N := 31) (ty0 := tyX12) dX12_laySoon_36 rfl (gT_u tU_X12) tyX12_ok nmX12 (by decide) (List.mem_cons_of_mem _ tF_X12_246) (Or.inl rfl) rfl rfl h (fun A25 _ h => ?_)
    exact AW_vret dX12_laySoon_39 rfl ⟨Nat.zero_le _, Nat.zero_le _⟩ h
def f_X12_laySoon (N : Nat) (A : hP) (x0 : Option Nat) : Option (Unit × hP) := f_X12_laySoon_0 N A x0
set_option maxRecDepth 20000 in
theorem c_X12_laySoon {l : Launch} (N : Nat) (A : hP) (x0 : Option Nat) (res : Unit × hP) (h : f_X12_laySoon N A x0 = some res) : Ct l mX12_laySoon 6 0 0 A [va_rf x0] (gu res) := Ct.of (lv := [(0, va_rf x0)]) (ls := [some (va_rf x0), none, none, none]) (by decide) (by simp [lv_args, g_cat_rf, cat_i, cat_l]) rfl (by simp [g_cat_rf, cat_i, cat_l]) (fun G => (t_X12_laySoon_0 N A x0 res h))
abbrev mX12_soon : gM := gMk yX12_soon cX12_soon 2 (some .int)
def f_X12_soon_52 (N : Nat) (A : hP) (s0 : Int32) : Option (Int32 × hP) := some (s0, A)
set_option maxRecDepth 20000 in
set_option maxHeartbeats 4000000 in
theorem t_X12_soon_52 {l : Launch} {G : gS} (N : Nat) (A : hP) (s0 : Int32) (res : Int32 × hP) (h : f_X12_soon_52 N A s0 = some res) : AW l mX12_soon (g_rm 7 0 0) G (g_Qf G (gi res) 0 0) A 0 0 52 [none, none] [.int s0] := by
  unfold f_X12_soon_52 at h
  exact AW_iret dX12_soon_52 rfl ⟨Nat.zero_le _, Nat.zero_le _⟩ h
def f_X12_soon_39 (N : Nat) (A : hP) (x0 : Option Nat) (x1 : Int32) : Option (Int32 × hP) := if (0) ≤ x1 then (f_X12_soon_52 N A (-1000000 : Int32)) else ((oI A x0 11 24).bind fun v1 => f_X12_soon_52 N A v1)
set_option maxRecDepth 20000 in
set_option maxHeartbeats 4000000 in
theorem t_X12_soon_39 {l : Launch} {G : gS} (N : Nat) (A : hP) (x0 : Option Nat) (x1 : Int32) (res : Int32 × hP) (h : f_X12_soon_39 N A x0 x1 = some res) : AW l mX12_soon (g_rm 7 0 0) G (g_Qf G (gi res) 0 0) A 0 0 39 [some (va_rf x0), some (.int x1)] [] := by
  unfold f_X12_soon_39 at h
  refine AW_iload_n dX12_soon_39 rfl ?_
  refine AW_if_ge (tgt := 50) dX12_soon_40 (by decide) h (fun _ h => ?_) (fun _ h => ?_)
  · refine AW_ldc (v := -1000000) dX12_soon_50 (List.mem_cons_of_mem _ tK_X12_83) ?_
    exact AW_fewer (fw_d (fw_d fw_n)) (t_X12_soon_52 N _ _ _ h)
  · refine AW_aload_n dX12_soon_43 rfl ?_
    refine AW_getI (ci := 11) (k0 := 24) (C := RX12) (T := TX12) (N := 31) dX12_soon_44 rfl (gT_u tU_X12) (by decide) (List.mem_cons_of_mem _ tF_X12_246) h (fun v1 _ h => ?_)
    refine AW_goto (tgt := 52) dX12_soon_47 (by decide) ?_
    exact AW_fewer (fw_d (fw_d fw_n)) (t_X12_soon_52 N _ _ _ h)
def f_X12_soon_68 (N : Nat) (A : hP) (s0 : Int32) : Option (Int32 × hP) := some (s0, A)
set_option maxRecDepth 20000 in
set_option maxHeartbeats 4000000 in
theorem t_X12_soon_68 {l : Launch} {G : gS} (N : Nat) (A : hP) (s0 : Int32) (res : Int32 × hP) (h : f_X12_soon_68 N A s0 = some res) : AW l mX12_soon (g_rm 7 0 0) G (g_Qf G (gi res) 0 0) A 0 0 68 [none, none] [.int s0] := by
  unfold f_X12_soon_68 at h
  exact AW_iret dX12_soon_68 rfl ⟨Nat.zero_le _, Nat.zero_le _⟩ h
def f_X12_soon_0 (N : Nat) (A : hP) (x0 : Option Nat) (x1 : Int32) : Option (Int32 × hP) := (oP A x0 11 0 (.int (0 : Int32))).bind fun A2 => (oCk A2 x0 11).bind fun _ => (f_X12_isThere N A2 x0).bind fun q3 => if q3.1 = (0) then (some ((-1000002 : Int32), q3.2)) else (if (-1 : Int32) ≤ x1 then ((oCk q3.2 x0 11).bind fun _ => (f_X12_laySoon N q3.2 x0).bind fun q4 => if x1 < (0) then (f_X12_soon_39 N q4.2 x0 x1) else ((oI q4.2 x0 11 24).bind fun v5 => if x1 < v5 then (if x1 = (0) then ((oI q4.2 x0 11 25).bind fun v7 => f_X12_soon_68 N q4.2 v7) else ((oI q4.2 x0 11 26).bind fun v6 => f_X12_soon_68 N q4.2 v6)) else (f_X12_soon_39 N q4.2 x0 x1))) else (some ((-1000001 : Int32), q3.2)))
set_option maxRecDepth 20000 in
set_option maxHeartbeats 4000000 in
theorem t_X12_soon_0 {l : Launch} {G : gS} (N : Nat) (A : hP) (x0 : Option Nat) (x1 : Int32) (res : Int32 × hP) (h : f_X12_soon_0 N A x0 x1 = some res) : AW l mX12_soon (g_rm 7 0 0) G (g_Qf G (gi res) 0 0) A 0 0 0 [some (va_rf x0), some (.int x1)] [] := by
  unfold f_X12_soon_0 at h
  refine AW_aload_n dX12_soon_0 rfl ?_
  refine AW_iconst (v := 0) dX12_soon_1 (by decide) ?_
  refine AW_put (ci := 11) (k0 := 0) (C := RX12) (T := TX12) (N := 31) (ty0 := tyX12) dX12_soon_2 rfl (gT_u tU_X12) tyX12_ok nmX12 (by decide) (List.mem_cons_of_mem _ tF_X12_47) (Or.inl rfl) rfl rfl h (fun A2 _ h => ?_)
  refine AW_aload_n dX12_soon_5 rfl ?_
  refine AW_callVi (y := yX12_isThere) (cc := cX12_isThere) (n := 1) (d := 0) (mc := 0) (ms := 0) (np := 0) (ret := (some .boolean)) (As := []) (st := []) (ci := 11) dX12_soon_6 gT_s rfl tM_X12_195 tI_X12_isThere selp_X12_isThere tIni_X12 tY_X12_isThere (by decide +kernel) ⟨by decide, by decide⟩ ⟨by decide, by decide⟩ (Nat.le_of_ble_eq_true rfl) rfl h (fun q hq => c_X12_isThere N _ _ q hq) (fun q3 _ h => ?_)
  refine AW_if_ne (tgt := 15) dX12_soon_9 (by decide) h (fun _ h => ?_) (fun _ h => ?_)
  · refine AW_iload_n dX12_soon_15 rfl ?_
    refine AW_iconst (v := -1) dX12_soon_16 (by decide) ?_
    refine AW_icmp_ge (tgt := 23) dX12_soon_17 (by decide) h (fun _ h => ?_) (fun _ h => ?_)
    · refine AW_aload_n dX12_soon_23 rfl ?_
      refine AW_callVu (y := yX12_laySoon) (cc := cX12_laySoon) (n := 4) (d := 6) (mc := 0) (ms := 0) (np := 0) (ret := none) (As := []) (st := []) (ci := 11) dX12_soon_24 gT_s rfl tM_X12_261 tI_X12_laySoon selp_X12_laySoon tIni_X12 tY_X12_laySoon (by decide +kernel) ⟨by decide, by decide⟩ ⟨by decide, by decide⟩ (Nat.le_of_ble_eq_true rfl) rfl h (fun q hq => c_X12_laySoon N _ _ q hq) (fun q4 _ h => ?_)
      refine AW_iload_n dX12_soon_27 rfl ?_
      refine AW_if_lt (tgt := 39) dX12_soon_28 (by decide) h (fun _ h => ?_) (fun _ h => ?_)
      · exact (t_X12_soon_39 N _ _ _ _ h)
      · refine AW_iload_n dX12_soon_31 rfl ?_
        refine AW_aload_n dX12_soon_32 rfl ?_
        refine AW_getI (ci := 11) (k0 := 24) (C := RX12) (T := TX12) (N := 31) dX12_soon_33 rfl (gT_u tU_X12) (by decide) (List.mem_cons_of_mem _ tF_X12_246) h (fun v5 _ h => ?_)
        refine AW_icmp_lt (tgt := 53) dX12_soon_36 (by decide) h (fun _ h => ?_) (fun _ h => ?_)
        · refine AW_iload_n dX12_soon_53 rfl ?_
          refine AW_if_ne (tgt := 64) dX12_soon_54 (by decide) h (fun _ h => ?_) (fun _ h => ?_)
          · refine AW_aload_n dX12_soon_64 rfl ?_
            refine AW_getI (ci := 11) (k0 := 26) (C := RX12) (T := TX12) (N := 31) dX12_soon_65 rfl (gT_u tU_X12) (by decide) (List.mem_cons_of_mem _ tF_X12_258) h (fun v6 _ h => ?_)
            exact AW_fewer (fw_d (fw_d fw_n)) (t_X12_soon_68 N _ _ _ h)
          · refine AW_aload_n dX12_soon_57 rfl ?_
            refine AW_getI (ci := 11) (k0 := 25) (C := RX12) (T := TX12) (N := 31) dX12_soon_58 rfl (gT_u tU_X12) (by decide) (List.mem_cons_of_mem _ tF_X12_255) h (fun v7 _ h => ?_)
            refine AW_goto (tgt := 68) dX12_soon_61 (by decide) ?_
            exact AW_fewer (fw_d (fw_d fw_n)) (t_X12_soon_68 N _ _ _ h)
        · exact (t_X12_soon_39 N _ _ _ _ h)
    · refine AW_ldc (v := -1000001) dX12_soon_20 (List.mem_cons_of_mem _ tK_X12_67) ?_
      exact AW_iret dX12_soon_22 rfl ⟨Nat.zero_le _, Nat.zero_le _⟩ h
  · refine AW_ldc (v := -1000002) dX12_soon_12 (List.mem_cons_of_mem _ tK_X12_199) ?_
    exact AW_iret dX12_soon_14 rfl ⟨Nat.zero_le _, Nat.zero_le _⟩ h
def f_X12_soon (N : Nat) (A : hP) (x0 : Option Nat) (x1 : Int32) : Option (Int32 × hP) := f_X12_soon_0 N A x0 x1
set_option maxRecDepth 20000 in
theorem c_X12_soon {l : Launch} (N : Nat) (A : hP) (x0 : Option Nat) (x1 : Int32) (res : Int32 × hP) (h : f_X12_soon N A x0 x1 = some res) : Ct l mX12_soon 7 0 0 A [va_rf x0, .int x1] (gi res) := Ct.of (lv := [(0, va_rf x0), (1, .int x1)]) (ls := [some (va_rf x0), some (.int x1)]) (by decide) (by simp [lv_args, g_cat_rf, cat_i, cat_l]) rfl (by simp [g_cat_rf, cat_i, cat_l]) (fun G => (t_X12_soon_0 N A x0 x1 res h))
