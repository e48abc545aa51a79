abbrev mX12_in : gM := gMk yX12_in cX12_in 6 (some .boolean)
def f_X12_in_18 (N : Nat) (A : hP) (s0 : Int32) : Option (Int32 × hP) := if s0 = 0 ∨ s0 = 1 then some (s0, A) else none
set_option maxRecDepth 20000 in
set_option maxHeartbeats 4000000 in
theorem t_X12_in_18 {l : Launch} {G : gS} (N : Nat) (A : hP) (s0 : Int32) (res : Int32 × hP) (h : f_X12_in_18 N A s0 = some res) : AW l mX12_in (g_rm 0 0 0) G (g_Qf G (gi res) 0 0) A 0 0 18 [none, none, none, none, none, none] [.int s0] := by
  unfold f_X12_in_18 at h
  exact AW_zret dX12_in_18 rfl ⟨Nat.zero_le _, Nat.zero_le _⟩ h
def f_X12_in_17 (N : Nat) (A : hP) : Option (Int32 × hP) := f_X12_in_18 N A (0 : Int32)
set_option maxRecDepth 20000 in
set_option maxHeartbeats 4000000 in
theorem t_X12_in_17 {l : Launch} {G : gS} (N : Nat) (A : hP) (res : Int32 × hP) (h : f_X12_in_17 N A  = some res) : AW l mX12_in (g_rm 0 0 0) G (g_Qf G (gi res) 0 0) A 0 0 17 [none, none, none, none, none, none] [] := by
  unfold f_X12_in_17 at h
  refine AW_iconst (v := 0) dX12_in_17 (by decide) ?_
  exact (t_X12_in_18 N _ _ _ h)
def f_X12_in_0 (N : Nat) (A : hP) (x0 : Int64) (x2 : Int64) (x4 : Int64) : Option (Int32 × hP) := if (lg_cmp x0 x2) < (0) then (f_X12_in_17 N A) else (if (0) < (lg_cmp x0 x4) then (f_X12_in_17 N A) else (f_X12_in_18 N A (1 : Int32)))
set_option maxRecDepth 20000 in
set_option maxHeartbeats 4000000 in
theorem t_X12_in_0 {l : Launch} {G : gS} (N : Nat) (A : hP) (x0 : Int64) (x2 : Int64) (x4 : Int64) (res : Int32 × hP) (h : f_X12_in_0 N A x0 x2 x4 = some res) : AW l mX12_in (g_rm 0 0 0) G (g_Qf G (gi res) 0 0) A 0 0 0 [some (.long x0), none, some (.long x2), none, some (.long x4), none] [] := by
  unfold f_X12_in_0 at h
  refine AW_lload_n dX12_in_0 rfl ?_
  refine AW_lload_n dX12_in_1 rfl ?_
  refine AW_lcmp dX12_in_2 ?_
  refine AW_if_lt (tgt := 17) dX12_in_3 (by decide) h (fun _ h => ?_) (fun _ h => ?_)
  · exact AW_fewer (fw_d (fw_k (fw_d (fw_k (fw_d (fw_k fw_n)))))) (t_X12_in_17 N _ _ h)
  · refine AW_lload_n dX12_in_6 rfl ?_
    refine AW_lload dX12_in_7 rfl ?_
    refine AW_lcmp dX12_in_9 ?_
    refine AW_if_gt (tgt := 17) dX12_in_10 (by decide) h (fun _ h => ?_) (fun _ h => ?_)
    · exact AW_fewer (fw_d (fw_k (fw_d (fw_k (fw_d (fw_k fw_n)))))) (t_X12_in_17 N _ _ h)
    · refine AW_iconst (v := 1) dX12_in_13 (by decide) ?_
      refine AW_goto (tgt := 18) dX12_in_14 (by decide) ?_
      exact AW_fewer (fw_d (fw_k (fw_d (fw_k (fw_d (fw_k fw_n)))))) (t_X12_in_18 N _ _ _ h)
def f_X12_in (N : Nat) (A : hP) (x0 : Int64) (x2 : Int64) (x4 : Int64) : Option (Int32 × hP) := f_X12_in_0 N A x0 x2 x4
set_option maxRecDepth 20000 in
theorem c_X12_in {l : Launch} (N : Nat) (A : hP) (x0 : Int64) (x2 : Int64) (x4 : Int64) (res : Int32 × hP) (h : f_X12_in N A x0 x2 x4 = some res) : Ct l mX12_in 0 0 0 A [.long x0, .long x2, .long x4] (gi res) := Ct.of (lv := [(0, .long x0), (2, .long x2), (4, .long x4)]) (ls := [some (.long x0), none, some (.long x2), none, some (.long x4), none]) (by decide) (by simp [lv_args, g_cat_rf, cat_i, cat_l]) rfl (by simp [g_cat_rf, cat_i, cat_l]) (fun G => (t_X12_in_0 N A x0 x2 x4 res h))
abbrev mX12_isRow : gM := gMk yX12_isRow cX12_isRow 1 (some .boolean)
def f_X12_isRow_0 (N : Nat) (A : hP) (x0 : Int32) : Option (Int32 × hP) := (f_X12_in N A x0.toInt64 (0 : Int64) (7 : Int64)).bind fun q1 => if q1.1 = 0 ∨ q1.1 = 1 then some (q1.1, q1.2) else none
set_option maxRecDepth 20000 in
set_option maxHeartbeats 4000000 in
theorem t_X12_isRow_0 {l : Launch} {G : gS} (N : Nat) (A : hP) (x0 : Int32) (res : Int32 × hP) (h : f_X12_isRow_0 N A x0 = some res) : AW l mX12_isRow (g_rm 1 0 0) G (g_Qf G (gi res) 0 0) A 0 0 0 [some (.int x0)] [] := by
  unfold f_X12_isRow_0 at h
  refine AW_iload_n dX12_isRow_0 rfl ?_
  refine AW_i2l dX12_isRow_1 ?_
  refine AW_lconst (v := 0) dX12_isRow_2 (by decide) ?_
  refine AW_ldc2 (v := 7) dX12_isRow_3 (List.mem_cons_of_mem _ tL_X12_55) ?_
  refine AW_callSi (y := yX12_in) (cc := cX12_in) (n := 6) (d := 0) (mc := 0) (ms := 0) (np := 3) (ret := (some .boolean)) (As := [.long x0.toInt64, .long (0 : Int64), .long (7 : Int64)]) (st := []) dX12_isRow_6 gT_s tM_X12_57 tS_X12_in tIni_X12 tY_X12_in (by decide +kernel) ⟨by decide, by decide⟩ ⟨by decide, by decide⟩ (Nat.le_of_ble_eq_true rfl) rfl h (fun q hq => c_X12_in N _ _ _ _ q hq) (fun q1 _ h => ?_)
  exact AW_zret dX12_isRow_9 rfl ⟨Nat.zero_le _, Nat.zero_le _⟩ h
def f_X12_isRow (N : Nat) (A : hP) (x0 : Int32) : Option (Int32 × hP) := f_X12_isRow_0 N A x0
set_option maxRecDepth 20000 in
theorem c_X12_isRow {l : Launch} (N : Nat) (A : hP) (x0 : Int32) (res : Int32 × hP) (h : f_X12_isRow N A x0 = some res) : Ct l mX12_isRow 1 0 0 A [.int x0] (gi res) := Ct.of (lv := [(0, .int x0)]) (ls := [some (.int x0)]) (by decide) (by simp [lv_args, g_cat_rf, cat_i, cat_l]) rfl (by simp [g_cat_rf, cat_i, cat_l]) (fun G => (t_X12_isRow_0 N A x0 res h))
abbrev mX12_finding : gM := gMk yX12_finding cX12_finding 2 (some .int)
def f_X12_finding_0 (N : Nat) (A : hP) (x0 : Option Nat) (x1 : Int32) : Option (Int32 × hP) := (oP A x0 11 1 (.int x1)).bind fun A1 => some ((-1000010 : Int32) - x1, A1)
set_option maxRecDepth 20000 in
set_option maxHeartbeats 4000000 in
theorem t_X12_finding_0 {l : Launch} {G : gS} (N : Nat) (A : hP) (x0 : Option Nat) (x1 : Int32) (res : Int32 × hP) (h : f_X12_finding_0 N A x0 x1 = some res) : AW l mX12_finding (g_rm 0 0 0) G (g_Qf G (gi res) 0 0) A 0 0 0 [some (va_rf x0), some (.int x1)] [] := by
  unfold f_X12_finding_0 at h
  refine AW_aload_n dX12_finding_0 rfl ?_
  refine AW_iload_n dX12_finding_1 rfl ?_
  refine AW_put (ci := 11) (k0 := 1) (C := RX12) (T := TX12) (N := 31) (ty0 := tyX12) dX12_finding_2 rfl (gT_u tU_X12) tyX12_ok nmX12 (by decide) (List.mem_cons_of_mem _ tF_X12_51) (Or.inl rfl) rfl rfl h (fun A1 _ h => ?_)
  refine AW_ldc (v := -1000010) dX12_finding_5 (List.mem_cons_of_mem _ tK_X12_54) ?_
  refine AW_iload_n dX12_finding_7 rfl ?_
  refine AW_isub dX12_finding_8 ?_
  exact AW_iret dX12_finding_9 rfl ⟨Nat.zero_le _, Nat.zero_le _⟩ h
def f_X12_finding (N : Nat) (A : hP) (x0 : Option Nat) (x1 : Int32) : Option (Int32 × hP) := f_X12_finding_0 N A x0 x1
set_option maxRecDepth 20000 in
theorem c_X12_finding {l : Launch} (N : Nat) (A : hP) (x0 : Option Nat) (x1 : Int32) (res : Int32 × hP) (h : f_X12_finding N A x0 x1 = some res) : Ct l mX12_finding 0 0 0 A [va_rf x0, .int x1] (gi res) := Ct.of (lv := [(0, va_rf x0), (1, .int x1)]) (ls := [some (va_rf x0), some (.int x1)]) (by decide) (by simp [lv_args, g_cat_rf, cat_i, cat_l]) rfl (by simp [g_cat_rf, cat_i, cat_l]) (fun G => (t_X12_finding_0 N A x0 x1 res h))
abbrev mX12_row : gM := gMk yX12_row cX12_row 5 (some .int)
def f_X12_row_30 (N : Nat) (A : hP) : Option (Int32 × hP) := some ((-1000001 : Int32), A)
set_option maxRecDepth 20000 in
set_option maxHeartbeats 4000000 in
theorem t_X12_row_30 {l : Launch} {G : gS} (N : Nat) (A : hP) (res : Int32 × hP) (h : f_X12_row_30 N A  = some res) : AW l mX12_row (g_rm 2 0 0) G (g_Qf G (gi res) 0 0) A 0 0 30 [none, none, none, none, none] [] := by
  unfold f_X12_row_30 at h
  refine AW_ldc (v := -1000001) dX12_row_30 (List.mem_cons_of_mem _ tK_X12_67) ?_
  exact AW_iret dX12_row_32 rfl ⟨Nat.zero_le _, Nat.zero_le _⟩ h
def f_X12_row_65 (N : Nat) : Nat → hP → Option Nat → Int32 → Int32 → Int32 → Option (Int32 × hP)
  | 0, _, _, _, _, _ => none
  | n + 1, A, x0, x1, x3, x4 => if (40 : Int32) ≤ x4 then (some (x3, A)) else ((oR A x0 11 4).bind fun v1 => (oS A v1 0 (((40 : Int32) * x1) + x4) (0 : Int32)).bind fun A2 => f_X12_row_65 N n A2 x0 x1 x3 (x4 + (1 : Int32)))
set_option maxRecDepth 20000 in
set_option maxHeartbeats 4000000 in
theorem t_X12_row_65 {l : Launch} {G : gS} (N : Nat) : ∀ (n : Nat) (A : hP) (x0 : Option Nat) (x1 : Int32) (x3 : Int32) (x4 : Int32) (res : Int32 × hP), f_X12_row_65 N n A x0 x1 x3 x4 = some res → AW l mX12_row (g_rm 2 0 0) G (g_Qf G (gi res) 0 0) A 0 0 65 [some (va_rf x0), some (.int x1), none, some (.int x3), some (.int x4)] [] := by
  intro n
  induction n with
  | zero => intro A x0 x1 x3 x4 res h; cases h
  | succ n ih =>
    intro A x0 x1 x3 x4 res h
    rw [f_X12_row_65] at h
    refine AW_iload dX12_row_65 rfl ?_
    refine AW_bipush (v := 40) dX12_row_67 (by decide) ?_
    refine AW_icmp_ge (tgt := 91) dX12_row_69 (by decide) h (fun _ h => ?_) (fun _ h => ?_)
    · refine AW_iload_n dX12_row_91 rfl ?_
      exact AW_iret dX12_row_92 rfl ⟨Nat.zero_le _, Nat.zero_le _⟩ h
    · refine AW_aload_n dX12_row_72 rfl ?_
      refine AW_getR (ci := 11) (k0 := 4) (C := RX12) (T := TX12) (N := 31) dX12_row_73 rfl (gT_u tU_X12) (by decide) (List.mem_cons_of_mem _ tF_X12_16) h (fun v1 _ h => ?_)
      refine AW_bipush (v := 40) dX12_row_76 (by decide) ?_
      refine AW_iload_n dX12_row_78 rfl ?_
      refine AW_imul dX12_row_79 ?_
      refine AW_iload dX12_row_80 rfl ?_
      refine AW_iadd dX12_row_82 ?_
      refine AW_iconst (v := 0) dX12_row_83 (by decide) ?_
      refine AW_iast dX12_row_84 h (fun A2 _ h => ?_)
      refine AW_iinc (v := 1) (ls' := [some (va_rf x0), some (.int x1), none, some (.int x3), some (.int (x4 + (1 : Int32)))]) dX12_row_85 rfl (c1_i rfl) (by decide) (by decide) rfl ?_
      refine AW_goto (tgt := 65) dX12_row_88 (by decide) ?_
      exact (ih _ _ _ _ _ _ h)
def f_X12_row_0 (N : Nat) (A : hP) (x0 : Option Nat) (x1 : Int32) (x2 : Int32) (x3 : Int32) : Option (Int32 × hP) := (oP A x0 11 0 (.int (0 : Int32))).bind fun A3 => (f_X12_isRow N A3 x1).bind fun q4 => if q4.1 = (0) then (f_X12_row_30 N q4.2) else ((f_X12_in N q4.2 x2.toInt64 (0 : Int64) (2 : Int64)).bind fun q5 => if q5.1 = (0) then (f_X12_row_30 N q5.2) else (if x3 ≤ (40 : Int32) then ((oP q5.2 x0 11 1 (.int (0 : Int32))).bind fun A6 => if (0) ≤ x3 then ((oR A6 x0 11 2).bind fun v7 => (oS A6 v7 0 x1 x2).bind fun A8 => (oR A8 x0 11 3).bind fun v9 => (oS A8 v9 0 x1 x3).bind fun A10 => f_X12_row_65 N N A10 x0 x1 x3 (0 : Int32)) else ((oCk A6 x0 11).bind fun _ => (f_X12_finding N A6 x0 (4 : Int32)).bind fun q11 => some (q11.1, q11.2))) else (f_X12_row_30 N q5.2)))
set_option maxRecDepth 20000 in
set_option maxHeartbeats 4000000 in
theorem t_X12_row_0 {l : Launch} {G : gS} (N : Nat) (A : hP) (x0 : Option Nat) (x1 : Int32) (x2 : Int32) (x3 : Int32) (res : Int32 × hP) (h : f_X12_row_0 N A x0 x1 x2 x3 = some res) : AW l mX12_row (g_rm 2 0 0) G (g_Qf G (gi res) 0 0) A 0 0 0 [some (va_rf x0), some (.int x1), some (.int x2), some (.int x3), none] [] := by
  unfold f_X12_row_0 at h
  refine AW_aload_n dX12_row_0 rfl ?_
  refine AW_iconst (v := 0) dX12_row_1 (by decide) ?_
  refine AW_put (ci := 11) (k0 := 0) (C := RX12) (T := TX12) (N := 31) (ty0 := tyX12) dX12_row_2 rfl (gT_u tU_X12) tyX12_ok nmX12 (by decide) (List.mem_cons_of_mem _ tF_X12_47) (Or.inl rfl) rfl rfl h (fun A3 _ h => ?_)
  refine AW_iload_n dX12_row_5 rfl ?_
  refine AW_callSi (y := yX12_isRow) (cc := cX12_isRow) (n := 1) (d := 1) (mc := 0) (ms := 0) (np := 1) (ret := (some .boolean)) (As := [.int x1]) (st := []) dX12_row_6 gT_s tM_X12_61 tS_X12_isRow tIni_X12 tY_X12_isRow (by decide +kernel) ⟨by decide, by decide⟩ ⟨by decide, by decide⟩ (Nat.le_of_ble_eq_true rfl) rfl h (fun q hq => c_X12_isRow N _ _ q hq) (fun q4 _ h => ?_)
  refine AW_if_eq (tgt := 30) dX12_row_9 (by decide) h (fun _ h => ?_) (fun _ h => ?_)
  · exact AW_fewer (fw_d (fw_d (fw_d (fw_d (fw_k fw_n))))) (t_X12_row_30 N _ _ h)
  · refine AW_iload_n dX12_row_12 rfl ?_
    refine AW_i2l dX12_row_13 ?_
    refine AW_lconst (v := 0) dX12_row_14 (by decide) ?_
    refine AW_ldc2 (v := 2) dX12_row_15 (List.mem_cons_of_mem _ tL_X12_65) ?_
    refine AW_callSi (y := yX12_in) (cc := cX12_in) (n := 6) (d := 0) (mc := 0) (ms := 0) (np := 3) (ret := (some .boolean)) (As := [.long x2.toInt64, .long (0 : Int64), .long (2 : Int64)]) (st := []) dX12_row_18 gT_s tM_X12_57 tS_X12_in tIni_X12 tY_X12_in (by decide +kernel) ⟨by decide, by decide⟩ ⟨by decide, by decide⟩ (Nat.le_of_ble_eq_true rfl) rfl h (fun q hq => c_X12_in N _ _ _ _ q hq) (fun q5 _ h => ?_)
    refine AW_if_eq (tgt := 30) dX12_row_21 (by decide) h (fun _ h => ?_) (fun _ h => ?_)
    · exact AW_fewer (fw_d (fw_d (fw_d (fw_d (fw_k fw_n))))) (t_X12_row_30 N _ _ h)
    · refine AW_iload_n dX12_row_24 rfl ?_
      refine AW_bipush (v := 40) dX12_row_25 (by decide) ?_
      refine AW_icmp_le (tgt := 33) dX12_row_27 (by decide) h (fun _ h => ?_) (fun _ h => ?_)
      · refine AW_aload_n dX12_row_33 rfl ?_
        refine AW_iconst (v := 0) dX12_row_34 (by decide) ?_
        refine AW_put (ci := 11) (k0 := 1) (C := RX12) (T := TX12) (N := 31) (ty0 := tyX12) dX12_row_35 rfl (gT_u tU_X12) tyX12_ok nmX12 (by decide) (List.mem_cons_of_mem _ tF_X12_51) (Or.inl rfl) rfl rfl h (fun A6 _ h => ?_)
        refine AW_iload_n dX12_row_38 rfl ?_
        refine AW_if_ge (tgt := 48) dX12_row_39 (by decide) h (fun _ h => ?_) (fun _ h => ?_)
        · refine AW_aload_n dX12_row_48 rfl ?_
          refine AW_getR (ci := 11) (k0 := 2) (C := RX12) (T := TX12) (N := 31) dX12_row_49 rfl (gT_u tU_X12) (by decide) (List.mem_cons_of_mem _ tF_X12_7) h (fun v7 _ h => ?_)
          refine AW_iload_n dX12_row_52 rfl ?_
          refine AW_iload_n dX12_row_53 rfl ?_
          refine AW_iast dX12_row_54 h (fun A8 _ h => ?_)
          refine AW_aload_n dX12_row_55 rfl ?_
          refine AW_getR (ci := 11) (k0 := 3) (C := RX12) (T := TX12) (N := 31) dX12_row_56 rfl (gT_u tU_X12) (by decide) (List.mem_cons_of_mem _ tF_X12_13) h (fun v9 _ h => ?_)
          refine AW_iload_n dX12_row_59 rfl ?_
          refine AW_iload_n dX12_row_60 rfl ?_
          refine AW_iast dX12_row_61 h (fun A10 _ h => ?_)
          refine AW_iconst (v := 0) dX12_row_62 (by decide) ?_
          refine AW_istore (ls' := [some (va_rf x0), some (.int x1), some (.int x2), some (.int x3), some (.int (0 : Int32))]) dX12_row_63 (c1_i rfl) (by decide) rfl ?_
          exact AW_fewer (fw_k (fw_k (fw_d (fw_k (fw_k fw_n))))) (t_X12_row_65 N N _ _ _ _ _ _ h)
        · refine AW_aload_n dX12_row_42 rfl ?_
          refine AW_iconst (v := 4) dX12_row_43 (by decide) ?_
          refine AW_callVi (y := yX12_finding) (cc := cX12_finding) (n := 2) (d := 0) (mc := 0) (ms := 0) (np := 1) (ret := (some .int)) (As := [.int (4 : Int32)]) (st := []) (ci := 11) dX12_row_44 gT_s rfl tM_X12_68 tI_X12_finding selp_X12_finding tIni_X12 tY_X12_finding (by decide +kernel) ⟨by decide, by decide⟩ ⟨by decide, by decide⟩ (Nat.le_of_ble_eq_true rfl) rfl h (fun q hq => c_X12_finding N _ _ _ q hq) (fun q11 _ h => ?_)
          exact AW_iret dX12_row_47 rfl ⟨Nat.zero_le _, Nat.zero_le _⟩ h
      · exact AW_fewer (fw_d (fw_d (fw_d (fw_d (fw_k fw_n))))) (t_X12_row_30 N _ _ h)
def f_X12_row (N : Nat) (A : hP) (x0 : Option Nat) (x1 : Int32) (x2 : Int32) (x3 : Int32) : Option (Int32 × hP) := f_X12_row_0 N A x0 x1 x2 x3
set_option maxRecDepth 20000 in
theorem c_X12_row {l : Launch} (N : Nat) (A : hP) (x0 : Option Nat) (x1 : Int32) (x2 : Int32) (x3 : Int32) (res : Int32 × hP) (h : f_X12_row N A x0 x1 x2 x3 = some res) : Ct l mX12_row 2 0 0 A [va_rf x0, .int x1, .int x2, .int x3] (gi res) := Ct.of (lv := [(0, va_rf x0), (1, .int x1), (2, .int x2), (3, .int x3)]) (ls := [some (va_rf x0), some (.int x1), some (.int x2), some (.int x3), none]) (by decide) (by simp [lv_args, g_cat_rf, cat_i, cat_l]) rfl (by simp [g_cat_rf, cat_i, cat_l]) (fun G => (t_X12_row_0 N A x0 x1 x2 x3 res h))
abbrev mX12_set : gM := gMk yX12_set cX12_set 4 (some .int)
def f_X12_set_99 (N : Nat) (A : hP) (x0 : Option Nat) (x1 : Int32) (x2 : Int32) (s0 : Option Nat) (s1 : Int32) (s2 : Int32) : Option (Int32 × hP) := (oS A s0 0 s1 s2).bind fun A1 => (oR A1 x0 11 4).bind fun v2 => (oA A1 v2 0 (((40 : Int32) * x1) + x2)).bind fun v3 => some (v3, A1)
set_option maxRecDepth 20000 in
set_option maxHeartbeats 4000000 in
theorem t_X12_set_99 {l : Launch} {G : gS} (N : Nat) (A : hP) (x0 : Option Nat) (x1 : Int32) (x2 : Int32) (s0 : Option Nat) (s1 : Int32) (s2 : Int32) (res : Int32 × hP) (h : f_X12_set_99 N A x0 x1 x2 s0 s1 s2 = some res) : AW l mX12_set (g_rm 2 0 0) G (g_Qf G (gi res) 0 0) A 0 0 99 [some (va_rf x0), some (.int x1), some (.int x2), none] [.int s2, .int s1, va_rf s0] := by
  unfold f_X12_set_99 at h
  refine AW_iast dX12_set_99 h (fun A1 _ h => ?_)
  refine AW_aload_n dX12_set_100 rfl ?_
  refine AW_getR (ci := 11) (k0 := 4) (C := RX12) (T := TX12) (N := 31) dX12_set_101 rfl (gT_u tU_X12) (by decide) (List.mem_cons_of_mem _ tF_X12_16) h (fun v2 _ h => ?_)
  refine AW_bipush (v := 40) dX12_set_104 (by decide) ?_
  refine AW_iload_n dX12_set_106 rfl ?_
  refine AW_imul dX12_set_107 ?_
  refine AW_iload_n dX12_set_108 rfl ?_
  refine AW_iadd dX12_set_109 ?_
  refine AW_iald dX12_set_110 h (fun v3 _ h => ?_)
  exact AW_iret dX12_set_111 rfl ⟨Nat.zero_le _, Nat.zero_le _⟩ h
def f_X12_set_0 (N : Nat) (A : hP) (x0 : Option Nat) (x1 : Int32) (x2 : Int32) (x3 : Int32) : Option (Int32 × hP) := (oP A x0 11 0 (.int (0 : Int32))).bind fun A4 => (f_X12_isRow N A4 x1).bind fun q5 => if q5.1 = (0) then (some ((-1000001 : Int32), q5.2)) else ((oP q5.2 x0 11 1 (.int (0 : Int32))).bind fun A6 => (oR A6 x0 11 2).bind fun v7 => (oA A6 v7 0 x1).bind fun v8 => if (0) ≤ v8 then ((oR A6 x0 11 3).bind fun v9 => (oA A6 v9 0 x1).bind fun v10 => (f_X12_in N A6 x2.toInt64 (0 : Int64) ((v10 - (1 : Int32)).toInt64)).bind fun q11 => if q11.1 = (0) then ((oCk q11.2 x0 11).bind fun _ => (f_X12_finding N q11.2 x0 (2 : Int32)).bind fun q17 => some (q17.1, q17.2)) else ((oR q11.2 x0 11 4).bind fun v12 => (oR q11.2 x0 11 2).bind fun v13 => (oA q11.2 v13 0 x1).bind fun v14 => if v14 = (0) then (f_X12_set_99 N q11.2 x0 x1 x2 v12 (((40 : Int32) * x1) + x2) x3.toInt8.toInt32) else ((oR q11.2 x0 11 2).bind fun v15 => (oA q11.2 v15 0 x1).bind fun v16 => if v16 = (1 : Int32) then (f_X12_set_99 N q11.2 x0 x1 x2 v12 (((40 : Int32) * x1) + x2) x3.toInt16.toInt32) else (f_X12_set_99 N q11.2 x0 x1 x2 v12 (((40 : Int32) * x1) + x2) x3)))) else ((oCk A6 x0 11).bind fun _ => (f_X12_finding N A6 x0 (1 : Int32)).bind fun q18 => some (q18.1, q18.2)))
set_option maxRecDepth 20000 in
set_option maxHeartbeats 4000000 in
theorem t_X12_set_0 {l : Launch} {G : gS} (N : Nat) (A : hP) (x0 : Option Nat) (x1 : Int32) (x2 : Int32) (x3 : Int32) (res : Int32 × hP) (h : f_X12_set_0 N A x0 x1 x2 x3 = some res) : AW l mX12_set (g_rm 2 0 0) G (g_Qf G (gi res) 0 0) A 0 0 0 [some (va_rf x0), some (.int x1), some (.int x2), some (.int x3)] [] := by
  unfold f_X12_set_0 at h
  refine AW_aload_n dX12_set_0 rfl ?_
  refine AW_iconst (v := 0) dX12_set_1 (by decide) ?_
  refine AW_put (ci := 11) (k0 := 0) (C := RX12) (T := TX12) (N := 31) (ty0 := tyX12) dX12_set_2 rfl (gT_u tU_X12) tyX12_ok nmX12 (by decide) (List.mem_cons_of_mem _ tF_X12_47) (Or.inl rfl) rfl rfl h (fun A4 _ h => ?_)
  refine AW_iload_n dX12_set_5 rfl ?_
  refine AW_callSi (y := yX12_isRow) (cc := cX12_isRow) (n := 1) (d := 1) (mc := 0) (ms := 0) (np := 1) (ret := (some .boolean)) (As := [.int x1]) (st := []) dX12_set_6 gT_s tM_X12_61 tS_X12_isRow tIni_X12 tY_X12_isRow (by decide +kernel) ⟨by decide, by decide⟩ ⟨by decide, by decide⟩ (Nat.le_of_ble_eq_true rfl) rfl h (fun q hq => c_X12_isRow N _ _ q hq) (fun q5 _ h => ?_)
  refine AW_if_ne (tgt := 15) dX12_set_9 (by decide) h (fun _ h => ?_) (fun _ h => ?_)
  · refine AW_aload_n dX12_set_15 rfl ?_
    refine AW_iconst (v := 0) dX12_set_16 (by decide) ?_
    refine AW_put (ci := 11) (k0 := 1) (C := RX12) (T := TX12) (N := 31) (ty0 := tyX12) dX12_set_17 rfl (gT_u tU_X12) tyX12_ok nmX12 (by decide) (List.mem_cons_of_mem _ tF_X12_51) (Or.inl rfl) rfl rfl h (fun A6 _ h => ?_)
    refine AW_aload_n dX12_set_20 rfl ?_
    refine AW_getR (ci := 11) (k0 := 2) (C := RX12) (T := TX12) (N := 31) dX12_set_21 rfl (gT_u tU_X12) (by decide) (List.mem_cons_of_mem _ tF_X12_7) h (fun v7 _ h => ?_)
    refine AW_iload_n dX12_set_24 rfl ?_
    refine AW_iald dX12_set_25 h (fun v8 _ h => ?_)
    refine AW_if_ge (tgt := 35) dX12_set_26 (by decide) h (fun _ h => ?_) (fun _ h => ?_)
    · refine AW_iload_n dX12_set_35 rfl ?_
      refine AW_i2l dX12_set_36 ?_
      refine AW_lconst (v := 0) dX12_set_37 (by decide) ?_
      refine AW_aload_n dX12_set_38 rfl ?_
      refine AW_getR (ci := 11) (k0 := 3) (C := RX12) (T := TX12) (N := 31) dX12_set_39 rfl (gT_u tU_X12) (by decide) (List.mem_cons_of_mem _ tF_X12_13) h (fun v9 _ h => ?_)
      refine AW_iload_n dX12_set_42 rfl ?_
      refine AW_iald dX12_set_43 h (fun v10 _ h => ?_)
      refine AW_iconst (v := 1) dX12_set_44 (by decide) ?_
      refine AW_isub dX12_set_45 ?_
      refine AW_i2l dX12_set_46 ?_
      refine AW_callSi (y := yX12_in) (cc := cX12_in) (n := 6) (d := 0) (mc := 0) (ms := 0) (np := 3) (ret := (some .boolean)) (As := [.long x2.toInt64, .long (0 : Int64), .long ((v10 - (1 : Int32)).toInt64)]) (st := []) dX12_set_47 gT_s tM_X12_57 tS_X12_in tIni_X12 tY_X12_in (by decide +kernel) ⟨by decide, by decide⟩ ⟨by decide, by decide⟩ (Nat.le_of_ble_eq_true rfl) rfl h (fun q hq => c_X12_in N _ _ _ _ q hq) (fun q11 _ h => ?_)
      refine AW_if_ne (tgt := 59) dX12_set_50 (by decide) h (fun _ h => ?_) (fun _ h => ?_)
      · refine AW_aload_n dX12_set_59 rfl ?_
        refine AW_getR (ci := 11) (k0 := 4) (C := RX12) (T := TX12) (N := 31) dX12_set_60 rfl (gT_u tU_X12) (by decide) (List.mem_cons_of_mem _ tF_X12_16) h (fun v12 _ h => ?_)
        refine AW_bipush (v := 40) dX12_set_63 (by decide) ?_
        refine AW_iload_n dX12_set_65 rfl ?_
        refine AW_imul dX12_set_66 ?_
        refine AW_iload_n dX12_set_67 rfl ?_
        refine AW_iadd dX12_set_68 ?_
        refine AW_aload_n dX12_set_69 rfl ?_
        refine AW_getR (ci := 11) (k0 := 2) (C := RX12) (T := TX12) (N := 31) dX12_set_70 rfl (gT_u tU_X12) (by decide) (List.mem_cons_of_mem _ tF_X12_7) h (fun v13 _ h => ?_)
        refine AW_iload_n dX12_set_73 rfl ?_
        refine AW_iald dX12_set_74 h (fun v14 _ h => ?_)
        refine AW_if_ne (tgt := 83) dX12_set_75 (by decide) h (fun _ h => ?_) (fun _ h => ?_)
        · refine AW_aload_n dX12_set_83 rfl ?_
          refine AW_getR (ci := 11) (k0 := 2) (C := RX12) (T := TX12) (N := 31) dX12_set_84 rfl (gT_u tU_X12) (by decide) (List.mem_cons_of_mem _ tF_X12_7) h (fun v15 _ h => ?_)
          refine AW_iload_n dX12_set_87 rfl ?_
          refine AW_iald dX12_set_88 h (fun v16 _ h => ?_)
          refine AW_iconst (v := 1) dX12_set_89 (by decide) ?_
          refine AW_icmp_ne (tgt := 98) dX12_set_90 (by decide) h (fun _ h => ?_) (fun _ h => ?_)
          · refine AW_iload_n dX12_set_98 rfl ?_
            exact AW_fewer (fw_k (fw_k (fw_k (fw_d fw_n)))) (t_X12_set_99 N _ _ _ _ _ _ _ _ h)
          · refine AW_iload_n dX12_set_93 rfl ?_
            refine AW_i2s dX12_set_94 ?_
            refine AW_goto (tgt := 99) dX12_set_95 (by decide) ?_
            exact AW_fewer (fw_k (fw_k (fw_k (fw_d fw_n)))) (t_X12_set_99 N _ _ _ _ _ _ _ _ h)
        · refine AW_iload_n dX12_set_78 rfl ?_
          refine AW_i2b dX12_set_79 ?_
          refine AW_goto (tgt := 99) dX12_set_80 (by decide) ?_
          exact AW_fewer (fw_k (fw_k (fw_k (fw_d fw_n)))) (t_X12_set_99 N _ _ _ _ _ _ _ _ h)
      · refine AW_aload_n dX12_set_53 rfl ?_
        refine AW_iconst (v := 2) dX12_set_54 (by decide) ?_
        refine AW_callVi (y := yX12_finding) (cc := cX12_finding) (n := 2) (d := 0) (mc := 0) (ms := 0) (np := 1) (ret := (some .int)) (As := [.int (2 : Int32)]) (st := []) (ci := 11) dX12_set_55 gT_s rfl tM_X12_68 tI_X12_finding selp_X12_finding tIni_X12 tY_X12_finding (by decide +kernel) ⟨by decide, by decide⟩ ⟨by decide, by decide⟩ (Nat.le_of_ble_eq_true rfl) rfl h (fun q hq => c_X12_finding N _ _ _ q hq) (fun q17 _ h => ?_)
        exact AW_iret dX12_set_58 rfl ⟨Nat.zero_le _, Nat.zero_le _⟩ h
    · refine AW_aload_n dX12_set_29 rfl ?_
      refine AW_iconst (v := 1) dX12_set_30 (by decide) ?_
      refine AW_callVi (y := yX12_finding) (cc := cX12_finding) (n := 2) (d := 0) (mc := 0) (ms := 0) (np := 1) (ret := (some .int)) (As := [.int (1 : Int32)]) (st := []) (ci := 11) dX12_set_31 gT_s rfl tM_X12_68 tI_X12_finding selp_X12_finding tIni_X12 tY_X12_finding (by decide +kernel) ⟨by decide, by decide⟩ ⟨by decide, by decide⟩ (Nat.le_of_ble_eq_true rfl) rfl h (fun q hq => c_X12_finding N _ _ _ q hq) (fun q18 _ h => ?_)
      exact AW_iret dX12_set_34 rfl ⟨Nat.zero_le _, Nat.zero_le _⟩ h
  · refine AW_ldc (v := -1000001) dX12_set_12 (List.mem_cons_of_mem _ tK_X12_67) ?_
    exact AW_iret dX12_set_14 rfl ⟨Nat.zero_le _, Nat.zero_le _⟩ h
def f_X12_set (N : Nat) (A : hP) (x0 : Option Nat) (x1 : Int32) (x2 : Int32) (x3 : Int32) : Option (Int32 × hP) := f_X12_set_0 N A x0 x1 x2 x3
set_option maxRecDepth 20000 in
theorem c_X12_set {l : Launch} (N : Nat) (A : hP) (x0 : Option Nat) (x1 : Int32) (x2 : Int32) (x3 : Int32) (res : Int32 × hP) (h : f_X12_set N A x0 x1 x2 x3 = some res) : Ct l mX12_set 2 0 0 A [va_rf x0, .int x1, .int x2, .int x3] (gi res) := Ct.of (lv := [(0, va_rf x0), (1, .int x1), (2, .int x2), (3, .int x3)]) (ls := [some (va_rf x0), some (.int x1), some (.int x2), some (.int x3)]) (by decide) (by simp [lv_args, g_cat_rf, cat_i, cat_l]) rfl (by simp [g_cat_rf, cat_i, cat_l]) (fun G => (t_X12_set_0 N A x0 x1 x2 x3 res h))
abbrev mX12_copy : gM := gMk yX12_copy cX12_copy 9 (some .int)
def f_X12_copy_19 (N : Nat) (A : hP) : Option (Int32 × hP) := some ((-1000001 : Int32), A)
set_option maxRecDepth 20000 in
set_option maxHeartbeats 4000000 in
theorem t_X12_copy_19 {l : Launch} {G : gS} (N : Nat) (A : hP) (res : Int32 × hP) (h : f_X12_copy_19 N A  = some res) : AW l mX12_copy (g_rm 2 0 0) G (g_Qf G (gi res) 0 0) A 0 0 19 [none, none, none, none, none, none, none, none, none] [] := by
  unfold f_X12_copy_19 at h
  refine AW_ldc (v := -1000001) dX12_copy_19 (List.mem_cons_of_mem _ tK_X12_67) ?_
  exact AW_iret dX12_copy_21 rfl ⟨Nat.zero_le _, Nat.zero_le _⟩ h
def f_X12_copy_45 (N : Nat) (A : hP) (x0 : Option Nat) : Option (Int32 × hP) := (oCk A x0 11).bind fun _ => (f_X12_finding N A x0 (1 : Int32)).bind fun q1 => some (q1.1, q1.2)
set_option maxRecDepth 20000 in
set_option maxHeartbeats 4000000 in
theorem t_X12_copy_45 {l : Launch} {G : gS} (N : Nat) (A : hP) (x0 : Option Nat) (res : Int32 × hP) (h : f_X12_copy_45 N A x0 = some res) : AW l mX12_copy (g_rm 2 0 0) G (g_Qf G (gi res) 0 0) A 0 0 45 [some (va_rf x0), none, none, none, none, none, none, none, none] [] := by
  unfold f_X12_copy_45 at h
  refine AW_aload_n dX12_copy_45 rfl ?_
  refine AW_iconst (v := 1) dX12_copy_46 (by decide) ?_
  refine AW_callVi (y := yX12_finding) (cc := cX12_finding) (n := 2) (d := 0) (mc := 0) (ms := 0) (np := 1) (ret := (some .int)) (As := [.int (1 : Int32)]) (st := []) (ci := 11) dX12_copy_47 gT_s rfl tM_X12_68 tI_X12_finding selp_X12_finding tIni_X12 tY_X12_finding (by decide +kernel) ⟨by decide, by decide⟩ ⟨by decide, by decide⟩ (Nat.le_of_ble_eq_true rfl) rfl h (fun q hq => c_X12_finding N _ _ _ q hq) (fun q1 _ h => ?_)
  exact AW_iret dX12_copy_50 rfl ⟨Nat.zero_le _, Nat.zero_le _⟩ h
def f_X12_copy_121 (N : Nat) (A : hP) (x0 : Option Nat) : Option (Int32 × hP) := (oCk A x0 11).bind fun _ => (f_X12_finding N A x0 (2 : Int32)).bind fun q2 => some (q2.1, q2.2)
set_option maxRecDepth 20000 in
set_option maxHeartbeats 4000000 in
theorem t_X12_copy_121 {l : Launch} {G : gS} (N : Nat) (A : hP) (x0 : Option Nat) (res : Int32 × hP) (h : f_X12_copy_121 N A x0 = some res) : AW l mX12_copy (g_rm 2 0 0) G (g_Qf G (gi res) 0 0) A 0 0 121 [some (va_rf x0), none, none, none, none, none, none, none, none] [] := by
  unfold f_X12_copy_121 at h
  refine AW_aload_n dX12_copy_121 rfl ?_
  refine AW_iconst (v := 2) dX12_copy_122 (by decide) ?_
  refine AW_callVi (y := yX12_finding) (cc := cX12_finding) (n := 2) (d := 0) (mc := 0) (ms := 0) (np := 1) (ret := (some .int)) (As := [.int (2 : Int32)]) (st := []) (ci := 11) dX12_copy_123 gT_s rfl tM_X12_68 tI_X12_finding selp_X12_finding tIni_X12 tY_X12_finding (by decide +kernel) ⟨by decide, by decide⟩ ⟨by decide, by decide⟩ (Nat.le_of_ble_eq_true rfl) rfl h (fun q hq => c_X12_finding N _ _ _ q hq) (fun q2 _ h => ?_)
  exact AW_iret dX12_copy_126 rfl ⟨Nat.zero_le _, Nat.zero_le _⟩ h
def f_X12_copy_167 (N : Nat) (r143 : hP → Option Nat → Int32 → Int32 → Int32 → Int32 → Int32 → Int32 → Int32 → Option (Int32 × hP)) (A : hP) (x0 : Option Nat) (x1 : Int32) (x2 : Int32) (x3 : Int32) (x4 : Int32) (x5 : Int32) (x6 : Int32) (x7 : Int32) (s0 : Int32) : Option (Int32 × hP) := (oR A x0 11 4).bind fun v3 => (oR A x0 11 4).bind fun v4 => (oA A v4 0 ((((40 : Int32) * x1) + x2) + s0)).bind fun v5 => (oS A v3 0 ((((40 : Int32) * x3) + x4) + s0) v5).bind fun A6 => r143 A6 x0 x1 x2 x3 x4 x5 x6 (x7 + (1 : Int32))
set_option maxRecDepth 20000 in
set_option maxHeartbeats 4000000 in
theorem t_X12_copy_167 {l : Launch} {G : gS} (N : Nat) (r143 : hP → Option Nat → Int32 → Int32 → Int32 → Int32 → Int32 → Int32 → Int32 → Option (Int32 × hP)) (hr143 : ∀ (A : hP) (x0 : Option Nat) (x1 : Int32) (x2 : Int32) (x3 : Int32) (x4 : Int32) (x5 : Int32) (x6 : Int32) (x7 : Int32) (res : Int32 × hP), r143 A x0 x1 x2 x3 x4 x5 x6 x7 = some res → AW l mX12_copy (g_rm 2 0 0) G (g_Qf G (gi res) 0 0) A 0 0 143 [some (va_rf x0), some (.int x1), some (.int x2), some (.int x3), some (.int x4), some (.int x5), some (.int x6), some (.int x7), none] []) (A : hP) (x0 : Option Nat) (x1 : Int32) (x2 : Int32) (x3 : Int32) (x4 : Int32) (x5 : Int32) (x6 : Int32) (x7 : Int32) (s0 : Int32) (res : Int32 × hP) (h : f_X12_copy_167 N r143 A x0 x1 x2 x3 x4 x5 x6 x7 s0 = some res) : AW l mX12_copy (g_rm 2 0 0) G (g_Qf G (gi res) 0 0) A 0 0 167 [some (va_rf x0), some (.int x1), some (.int x2), some (.int x3), some (.int x4), some (.int x5), some (.int x6), some (.int x7), none] [.int s0] := by
  unfold f_X12_copy_167 at h
  refine AW_istore (ls' := [some (va_rf x0), some (.int x1), some (.int x2), some (.int x3), some (.int x4), some (.int x5), some (.int x6), some (.int x7), some (.int s0)]) dX12_copy_167 (c1_i rfl) (by decide) rfl ?_
  refine AW_aload_n dX12_copy_169 rfl ?_
  refine AW_getR (ci := 11) (k0 := 4) (C := RX12) (T := TX12) (N := 31) dX12_copy_170 rfl (gT_u tU_X12) (by decide) (List.mem_cons_of_mem _ tF_X12_16) h (fun v3 _ h => ?_)
  refine AW_bipush (v := 40) dX12_copy_173 (by decide) ?_
  refine AW_iload_n dX12_copy_175 rfl ?_
  refine AW_imul dX12_copy_176 ?_
  refine AW_iload dX12_copy_177 rfl ?_
  refine AW_iadd dX12_copy_179 ?_
  refine AW_iload dX12_copy_180 rfl ?_
  refine AW_iadd dX12_copy_182 ?_
  refine AW_aload_n dX12_copy_183 rfl ?_
  refine AW_getR (ci := 11) (k0 := 4) (C := RX12) (T := TX12) (N := 31) dX12_copy_184 rfl (gT_u tU_X12) (by decide) (List.mem_cons_of_mem _ tF_X12_16) h (fun v4 _ h => ?_)
  refine AW_bipush (v := 40) dX12_copy_187 (by decide) ?_
  refine AW_iload_n dX12_copy_189 rfl ?_
  refine AW_imul dX12_copy_190 ?_
  refine AW_iload_n dX12_copy_191 rfl ?_
  refine AW_iadd dX12_copy_192 ?_
  refine AW_iload dX12_copy_193 rfl ?_
  refine AW_iadd dX12_copy_195 ?_
  refine AW_iald dX12_copy_196 h (fun v5 _ h => ?_)
  refine AW_iast dX12_copy_197 h (fun A6 _ h => ?_)
  refine AW_iinc (v := 1) (ls' := [some (va_rf x0), some (.int x1), some (.int x2), some (.int x3), some (.int x4), some (.int x5), some (.int x6), some (.int (x7 + (1 : Int32))), some (.int s0)]) dX12_copy_198 rfl (c1_i rfl) (by decide) (by decide) rfl ?_
  refine AW_goto (tgt := 143) dX12_copy_201 (by decide) ?_
  exact AW_fewer (fw_k (fw_k (fw_k (fw_k (fw_k (fw_k (fw_k (fw_k (fw_d fw_n))))))))) (hr143 _ _ _ _ _ _ _ _ _ _ h)
def f_X12_copy_143 (N : Nat) : Nat → hP → Option Nat → Int32 → Int32 → Int32 → Int32 → Int32 → Int32 → Int32 → Option (Int32 × hP)
  | 0, _, _, _, _, _, _, _, _, _ => none
  | n + 1, A, x0, x1, x2, x3, x4, x5, x6, x7 => if x5 ≤ x7 then (some (x5, A)) else (if x6 = (0) then (f_X12_copy_167 N (f_X12_copy_143 N n) A x0 x1 x2 x3 x4 x5 x6 x7 ((x5 - (1 : Int32)) - x7)) else (f_X12_copy_167 N (f_X12_copy_143 N n) A x0 x1 x2 x3 x4 x5 x6 x7 x7))
set_option maxRecDepth 20000 in
set_option maxHeartbeats 4000000 in
theorem t_X12_copy_143 {l : Launch} {G : gS} (N : Nat) : ∀ (n : Nat) (A : hP) (x0 : Option Nat) (x1 : Int32) (x2 : Int32) (x3 : Int32) (x4 : Int32) (x5 : Int32) (x6 : Int32) (x7 : Int32) (res : Int32 × hP), f_X12_copy_143 N n A x0 x1 x2 x3 x4 x5 x6 x7 = some res → AW l mX12_copy (g_rm 2 0 0) G (g_Qf G (gi res) 0 0) A 0 0 143 [some (va_rf x0), some (.int x1), some (.int x2), some (.int x3), some (.int x4), some (.int x5), some (.int x6), some (.int x7), none] [] := by
  intro n
  induction n with
  | zero => intro A x0 x1 x2 x3 x4 x5 x6 x7 res h; cases h
  | succ n ih =>
    intro A x0 x1 x2 x3 x4 x5 x6 x7 res h
    rw [f_X12_copy_143] at h
    refine AW_iload dX12_copy_143 rfl ?_
    refine AW_iload dX12_copy_145 rfl ?_
    refine AW_icmp_ge (tgt := 204) dX12_copy_147 (by decide) h (fun _ h => ?_) (fun _ h => ?_)
    · refine AW_iload dX12_copy_204 rfl ?_
      exact AW_iret dX12_copy_206 rfl ⟨Nat.zero_le _, Nat.zero_le _⟩ h
    · refine AW_iload dX12_copy_150 rfl ?_
      refine AW_if_eq (tgt := 160) dX12_copy_152 (by decide) h (fun _ h => ?_) (fun _ h => ?_)
      · refine AW_iload dX12_copy_160 rfl ?_
        refine AW_iconst (v := 1) dX12_copy_162 (by decide) ?_
        refine AW_isub dX12_copy_163 ?_
        refine AW_iload dX12_copy_164 rfl ?_
        refine AW_isub dX12_copy_166 ?_
        exact (t_X12_copy_167 N (f_X12_copy_143 N n) ih _ _ _ _ _ _ _ _ _ _ _ h)
      · refine AW_iload dX12_copy_155 rfl ?_
        refine AW_goto (tgt := 167) dX12_copy_157 (by decide) ?_
        exact (t_X12_copy_167 N (f_X12_copy_143 N n) ih _ _ _ _ _ _ _ _ _ _ _ h)
def f_X12_copy_138 (N : Nat) (A : hP) (x0 : Option Nat) (x1 : Int32) (x2 : Int32) (x3 : Int32) (x4 : Int32) (x5 : Int32) (s0 : Int32) : Option (Int32 × hP) := f_X12_copy_143 N N A x0 x1 x2 x3 x4 x5 s0 (0 : Int32)
set_option maxRecDepth 20000 in
set_option maxHeartbeats 4000000 in
theorem t_X12_copy_138 {l : Launch} {G : gS} (N : Nat) (A : hP) (x0 : Option Nat) (x1 : Int32) (x2 : Int32) (x3 : Int32) (x4 : Int32) (x5 : Int32) (s0 : Int32) (res : Int32 × hP) (h : f_X12_copy_138 N A x0 x1 x2 x3 x4 x5 s0 = some res) : AW l mX12_copy (g_rm 2 0 0) G (g_Qf G (gi res) 0 0) A 0 0 138 [some (va_rf x0), some (.int x1), some (.int x2), some (.int x3), some (.int x4), some (.int x5), none, none, none] [.int s0] := by
  unfold f_X12_copy_138 at h
  refine AW_istore (ls' := [some (va_rf x0), some (.int x1), some (.int x2), some (.int x3), some (.int x4), some (.int x5), some (.int s0), none, none]) dX12_copy_138 (c1_i rfl) (by decide) rfl ?_
  refine AW_iconst (v := 0) dX12_copy_140 (by decide) ?_
  refine AW_istore (ls' := [some (va_rf x0), some (.int x1), some (.int x2), some (.int x3), some (.int x4), some (.int x5), some (.int s0), some (.int (0 : Int32)), none]) dX12_copy_141 (c1_i rfl) (by decide) rfl ?_
  exact (t_X12_copy_143 N N _ _ _ _ _ _ _ _ _ _ h)
def f_X12_copy_0 (N : Nat) (A : hP) (x0 : Option Nat) (x1 : Int32) (x2 : Int32) (x3 : Int32) (x4 : Int32) (x5 : Int32) : Option (Int32 × hP) := (oP A x0 11 0 (.int (0 : Int32))).bind fun A7 => (f_X12_isRow N A7 x1).bind fun q8 => if q8.1 = (0) then (f_X12_copy_19 N q8.2) else ((f_X12_isRow N q8.2 x3).bind fun q9 => if q9.1 = (0) then (f_X12_copy_19 N q9.2) else ((oP q9.2 x0 11 1 (.int (0 : Int32))).bind fun A10 => (oR A10 x0 11 2).bind fun v11 => (oA A10 v11 0 x1).bind fun v12 => if v12 < (0) then (f_X12_copy_45 N A10 x0) else ((oR A10 x0 11 2).bind fun v13 => (oA A10 v13 0 x3).bind fun v14 => if (0) ≤ v14 then ((oR A10 x0 11 2).bind fun v15 => (oA A10 v15 0 x1).bind fun v16 => (oR A10 x0 11 2).bind fun v17 => (oA A10 v17 0 x3).bind fun v18 => if v16 = v18 then (if x2 < (0) then (f_X12_copy_121 N A10 x0) else (if x4 < (0) then (f_X12_copy_121 N A10 x0) else (if x5 < (0) then (f_X12_copy_121 N A10 x0) else ((oR A10 x0 11 3).bind fun v19 => (oA A10 v19 0 x1).bind fun v20 => if (0) < (lg_cmp (x2.toInt64 + x5.toInt64) v20.toInt64) then (f_X12_copy_121 N A10 x0) else ((oR A10 x0 11 3).bind fun v21 => (oA A10 v21 0 x3).bind fun v22 => if (lg_cmp (x4.toInt64 + x5.toInt64) v22.toInt64) ≤ (0) then (if x2 < x4 then (f_X12_copy_138 N A10 x0 x1 x2 x3 x4 x5 (0 : Int32)) else (f_X12_copy_138 N A10 x0 x1 x2 x3 x4 x5 (1 : Int32))) else (f_X12_copy_121 N A10 x0)))))) else ((oCk A10 x0 11).bind fun _ => (f_X12_finding N A10 x0 (5 : Int32)).bind fun q23 => some (q23.1, q23.2))) else (f_X12_copy_45 N A10 x0))))
set_option maxRecDepth 20000 in
set_option maxHeartbeats 4000000 in
theorem t_X12_copy_0 {l : Launch} {G : gS} (N : Nat) (A : hP) (x0 : Option Nat) (x1 : Int32) (x2 : Int32) (x3 : Int32) (x4 : Int32) (x5 : Int32) (res : Int32 × hP) (h : f_X12_copy_0 N A x0 x1 x2 x3 x4 x5 = some res) : AW l mX12_copy (g_rm 2 0 0) G (g_Qf G (gi res) 0 0) A 0 0 0 [some (va_rf x0), some (.int x1), some (.int x2), some (.int x3), some (.int x4), some (.int x5), none, none, none] [] := by
  unfold f_X12_copy_0 at h
  refine AW_aload_n dX12_copy_0 rfl ?_
  refine AW_iconst (v := 0) dX12_copy_1 (by decide) ?_
  refine AW_put (ci := 11) (k0 := 0) (C := RX12) (T := TX12) (N := 31) (ty0 := tyX12) dX12_copy_2 rfl (gT_u tU_X12) tyX12_ok nmX12 (by decide) (List.mem_cons_of_mem _ tF_X12_47) (Or.inl rfl) rfl rfl h (fun A7 _ h => ?_)
  refine AW_iload_n dX12_copy_5 rfl ?_
  refine AW_callSi (y := yX12_isRow) (cc := cX12_isRow) (n := 1) (d := 1) (mc := 0) (ms := 0) (np := 1) (ret := (some .boolean)) (As := [.int x1]) (st := []) dX12_copy_6 gT_s tM_X12_61 tS_X12_isRow tIni_X12 tY_X12_isRow (by decide +kernel) ⟨by decide, by decide⟩ ⟨by decide, by decide⟩ (Nat.le_of_ble_eq_true rfl) rfl h (fun q hq => c_X12_isRow N _ _ q hq) (fun q8 _ h => ?_)
  refine AW_if_eq (tgt := 19) dX12_copy_9 (by decide) h (fun _ h => ?_) (fun _ h => ?_)
  · exact AW_fewer (fw_d (fw_d (fw_d (fw_d (fw_d (fw_d (fw_k (fw_k (fw_k fw_n))))))))) (t_X12_copy_19 N _ _ h)
  · refine AW_iload_n dX12_copy_12 rfl ?_
    refine AW_callSi (y := yX12_isRow) (cc := cX12_isRow) (n := 1) (d := 1) (mc := 0) (ms := 0) (np := 1) (ret := (some .boolean)) (As := [.int x3]) (st := []) dX12_copy_13 gT_s tM_X12_61 tS_X12_isRow tIni_X12 tY_X12_isRow (by decide +kernel) ⟨by decide, by decide⟩ ⟨by decide, by decide⟩ (Nat.le_of_ble_eq_true rfl) rfl h (fun q hq => c_X12_isRow N _ _ q hq) (fun q9 _ h => ?_)
    refine AW_if_ne (tgt := 22) dX12_copy_16 (by decide) h (fun _ h => ?_) (fun _ h => ?_)
    · refine AW_aload_n dX12_copy_22 rfl ?_
      refine AW_iconst (v := 0) dX12_copy_23 (by decide) ?_
      refine AW_put (ci := 11) (k0 := 1) (C := RX12) (T := TX12) (N := 31) (ty0 := tyX12) dX12_copy_24 rfl (gT_u tU_X12) tyX12_ok nmX12 (by decide) (List.mem_cons_of_mem _ tF_X12_51) (Or.inl rfl) rfl rfl h (fun A10 _ h => ?_)
      refine AW_aload_n dX12_copy_27 rfl ?_
      refine AW_getR (ci := 11) (k0 := 2) (C := RX12) (T := TX12) (N := 31) dX12_copy_28 rfl (gT_u tU_X12) (by decide) (List.mem_cons_of_mem _ tF_X12_7) h (fun v11 _ h => ?_)
      refine AW_iload_n dX12_copy_31 rfl ?_
      refine AW_iald dX12_copy_32 h (fun v12 _ h => ?_)
      refine AW_if_lt (tgt := 45) dX12_copy_33 (by decide) h (fun _ h => ?_) (fun _ h => ?_)
      · exact AW_fewer (fw_k (fw_d (fw_d (fw_d (fw_d (fw_d (fw_k (fw_k (fw_k fw_n))))))))) (t_X12_copy_45 N _ _ _ h)
      · refine AW_aload_n dX12_copy_36 rfl ?_
        refine AW_getR (ci := 11) (k0 := 2) (C := RX12) (T := TX12) (N := 31) dX12_copy_37 rfl (gT_u tU_X12) (by decide) (List.mem_cons_of_mem _ tF_X12_7) h (fun v13 _ h => ?_)
        refine AW_iload_n dX12_copy_40 rfl ?_
        refine AW_iald dX12_copy_41 h (fun v14 _ h => ?_)
        refine AW_if_ge (tgt := 51) dX12_copy_42 (by decide) h (fun _ h => ?_) (fun _ h => ?_)
        · refine AW_aload_n dX12_copy_51 rfl ?_
          refine AW_getR (ci := 11) (k0 := 2) (C := RX12) (T := TX12) (N := 31) dX12_copy_52 rfl (gT_u tU_X12) (by decide) (List.mem_cons_of_mem _ tF_X12_7) h (fun v15 _ h => ?_)
          refine AW_iload_n dX12_copy_55 rfl ?_
          refine AW_iald dX12_copy_56 h (fun v16 _ h => ?_)
          refine AW_aload_n dX12_copy_57 rfl ?_
          refine AW_getR (ci := 11) (k0 := 2) (C := RX12) (T := TX12) (N := 31) dX12_copy_58 rfl (gT_u tU_X12) (by decide) (List.mem_cons_of_mem _ tF_X12_7) h (fun v17 _ h => ?_)
          refine AW_iload_n dX12_copy_61 rfl ?_
          refine AW_iald dX12_copy_62 h (fun v18 _ h => ?_)
          refine AW_icmp_eq (tgt := 72) dX12_copy_63 (by decide) h (fun _ h => ?_) (fun _ h => ?_)
          · refine AW_iload_n dX12_copy_72 rfl ?_
            refine AW_if_lt (tgt := 121) dX12_copy_73 (by decide) h (fun _ h => ?_) (fun _ h => ?_)
            · exact AW_fewer (fw_k (fw_d (fw_d (fw_d (fw_d (fw_d (fw_k (fw_k (fw_k fw_n))))))))) (t_X12_copy_121 N _ _ _ h)
            · refine AW_iload dX12_copy_76 rfl ?_
              refine AW_if_lt (tgt := 121) dX12_copy_78 (by decide) h (fun _ h => ?_) (fun _ h => ?_)
              · exact AW_fewer (fw_k (fw_d (fw_d (fw_d (fw_d (fw_d (fw_k (fw_k (fw_k fw_n))))))))) (t_X12_copy_121 N _ _ _ h)
              · refine AW_iload dX12_copy_81 rfl ?_
                refine AW_if_lt (tgt := 121) dX12_copy_83 (by decide) h (fun _ h => ?_) (fun _ h => ?_)
                · exact AW_fewer (fw_k (fw_d (fw_d (fw_d (fw_d (fw_d (fw_k (fw_k (fw_k fw_n))))))))) (t_X12_copy_121 N _ _ _ h)
                · refine AW_iload_n dX12_copy_86 rfl ?_
                  refine AW_i2l dX12_copy_87 ?_
                  refine AW_iload dX12_copy_88 rfl ?_
                  refine AW_i2l dX12_copy_90 ?_
                  refine AW_ladd dX12_copy_91 ?_
                  refine AW_aload_n dX12_copy_92 rfl ?_
                  refine AW_getR (ci := 11) (k0 := 3) (C := RX12) (T := TX12) (N := 31) dX12_copy_93 rfl (gT_u tU_X12) (by decide) (List.mem_cons_of_mem _ tF_X12_13) h (fun v19 _ h => ?_)
                  refine AW_iload_n dX12_copy_96 rfl ?_
                  refine AW_iald dX12_copy_97 h (fun v20 _ h => ?_)
                  refine AW_i2l dX12_copy_98 ?_
                  refine AW_lcmp dX12_copy_99 ?_
                  refine AW_if_gt (tgt := 121) dX12_copy_100 (by decide) h (fun _ h => ?_) (fun _ h => ?_)
                  · exact AW_fewer (fw_k (fw_d (fw_d (fw_d (fw_d (fw_d (fw_k (fw_k (fw_k fw_n))))))))) (t_X12_copy_121 N _ _ _ h)
                  · refine AW_iload dX12_copy_103 rfl ?_
                    refine AW_i2l dX12_copy_105 ?_
                    refine AW_iload dX12_copy_106 rfl ?_
                    refine AW_i2l dX12_copy_108 ?_
                    refine AW_ladd dX12_copy_109 ?_
                    refine AW_aload_n dX12_copy_110 rfl ?_
                    refine AW_getR (ci := 11) (k0 := 3) (C := RX12) (T := TX12) (N := 31) dX12_copy_111 rfl (gT_u tU_X12) (by decide) (List.mem_cons_of_mem _ tF_X12_13) h (fun v21 _ h => ?_)
                    refine AW_iload_n dX12_copy_114 rfl ?_
                    refine AW_iald dX12_copy_115 h (fun v22 _ h => ?_)
                    refine AW_i2l dX12_copy_116 ?_
                    refine AW_lcmp dX12_copy_117 ?_
                    refine AW_if_le (tgt := 127) dX12_copy_118 (by decide) h (fun _ h => ?_) (fun _ h => ?_)
                    · refine AW_iload_n dX12_copy_127 rfl ?_
                      refine AW_iload dX12_copy_128 rfl ?_
                      refine AW_icmp_lt (tgt := 137) dX12_copy_130 (by decide) h (fun _ h => ?_) (fun _ h => ?_)
                      · refine AW_iconst (v := 0) dX12_copy_137 (by decide) ?_
                        exact (t_X12_copy_138 N _ _ _ _ _ _ _ _ _ h)
                      · refine AW_iconst (v := 1) dX12_copy_133 (by decide) ?_
                        refine AW_goto (tgt := 138) dX12_copy_134 (by decide) ?_
                        exact (t_X12_copy_138 N _ _ _ _ _ _ _ _ _ h)
                    · exact AW_fewer (fw_k (fw_d (fw_d (fw_d (fw_d (fw_d (fw_k (fw_k (fw_k fw_n))))))))) (t_X12_copy_121 N _ _ _ h)
          · refine AW_aload_n dX12_copy_66 rfl ?_
            refine AW_iconst (v := 5) dX12_copy_67 (by decide) ?_
            refine AW_callVi (y := yX12_finding) (cc := cX12_finding) (n := 2) (d := 0) (mc := 0) (ms := 0) (np := 1) (ret := (some .int)) (As := [.int (5 : Int32)]) (st := []) (ci := 11) dX12_copy_68 gT_s rfl tM_X12_68 tI_X12_finding selp_X12_finding tIni_X12 tY_X12_finding (by decide +kernel) ⟨by decide, by decide⟩ ⟨by decide, by decide⟩ (Nat.le_of_ble_eq_true rfl) rfl h (fun q hq => c_X12_finding N _ _ _ q hq) (fun q23 _ h => ?_)
            exact AW_iret dX12_copy_71 rfl ⟨Nat.zero_le _, Nat.zero_le _⟩ h
        · exact AW_fewer (fw_k (fw_d (fw_d (fw_d (fw_d (fw_d (fw_k (fw_k (fw_k fw_n))))))))) (t_X12_copy_45 N _ _ _ h)
    · exact AW_fewer (fw_d (fw_d (fw_d (fw_d (fw_d (fw_d (fw_k (fw_k (fw_k fw_n))))))))) (t_X12_copy_19 N _ _ h)
def f_X12_copy (N : Nat) (A : hP) (x0 : Option Nat) (x1 : Int32) (x2 : Int32) (x3 : Int32) (x4 : Int32) (x5 : Int32) : Option (Int32 × hP) := f_X12_copy_0 N A x0 x1 x2 x3 x4 x5
set_option maxRecDepth 20000 in
theorem c_X12_copy {l : Launch} (N : Nat) (A : hP) (x0 : Option Nat) (x1 : Int32) (x2 : Int32) (x3 : Int32) (x4 : Int32) (x5 : Int32) (res : Int32 × hP) (h : f_X12_copy N A x0 x1 x2 x3 x4 x5 = some res) : Ct l mX12_copy 2 0 0 A [va_rf x0, .int x1, .int x2, .int x3, .int x4, .int x5] (gi res) := Ct.of (lv := [(0, va_rf x0), (1, .int x1), (2, .int x2), (3, .int x3), (4, .int x4), (5, .int x5)]) (ls := [some (va_rf x0), some (.int x1), some (.int x2), some (.int x3), some (.int x4), some (.int x5), none, none, none]) (by decide) (by simp [lv_args, g_cat_rf, cat_i, cat_l]) rfl (by simp [g_cat_rf, cat_i, cat_l]) (fun G => (t_X12_copy_0 N A x0 x1 x2 x3 x4 x5 res h))
abbrev mX12_drop : gM := gMk yX12_drop cX12_drop 2 (some .int)
def f_X12_drop_0 (N : Nat) (A : hP) (x0 : Option Nat) (x1 : Int32) : Option (Int32 × hP) := (oP A x0 11 0 (.int (0 : Int32))).bind fun A1 => (f_X12_isRow N A1 x1).bind fun q2 => if q2.1 = (0) then (some ((-1000001 : Int32), q2.2)) else ((oP q2.2 x0 11 1 (.int (0 : Int32))).bind fun A3 => (oR A3 x0 11 2).bind fun v4 => (oA A3 v4 0 x1).bind fun v5 => if (0) ≤ v5 then ((oR A3 x0 11 2).bind fun v6 => (oS A3 v6 0 x1 (-1 : Int32)).bind fun A7 => (oR A7 x0 11 3).bind fun v8 => (oA A7 v8 0 x1).bind fun v9 => some (v9, A7)) else ((oCk A3 x0 11).bind fun _ => (f_X12_finding N A3 x0 (1 : Int32)).bind fun q10 => some (q10.1, q10.2)))
set_option maxRecDepth 20000 in
set_option maxHeartbeats 4000000 in
theorem t_X12_drop_0 {l : Launch} {G : gS} (N : Nat) (A : hP) (x0 : Option Nat) (x1 : Int32) (res : Int32 × hP) (h : f_X12_drop_0 N A x0 x1 = some res) : AW l mX12_drop (g_rm 2 0 0) G (g_Qf G (gi res) 0 0) A 0 0 0 [some (va_rf x0), some (.int x1)] [] := by
  unfold f_X12_drop_0 at h
  refine AW_aload_n dX12_drop_0 rfl ?_
  refine AW_iconst (v := 0) dX12_drop_1 (by decide) ?_
  refine AW_put (ci := 11) (k0 := 0) (C := RX12) (T := TX12) (N := 31) (ty0 := tyX12) dX12_drop_2 rfl (gT_u tU_X12) tyX12_ok nmX12 (by decide) (List.mem_cons_of_mem _ tF_X12_47) (Or.inl rfl) rfl rfl h (fun A1 _ h => ?_)
  refine AW_iload_n dX12_drop_5 rfl ?_
  refine AW_callSi (y := yX12_isRow) (cc := cX12_isRow) (n := 1) (d := 1) (mc := 0) (ms := 0) (np := 1) (ret := (some .boolean)) (As := [.int x1]) (st := []) dX12_drop_6 gT_s tM_X12_61 tS_X12_isRow tIni_X12 tY_X12_isRow (by decide +kernel) ⟨by decide, by decide⟩ ⟨by decide, by decide⟩ (Nat.le_of_ble_eq_true rfl) rfl h (fun q hq => c_X12_isRow N _ _ q hq) (fun q2 _ h => ?_)
  refine AW_if_ne (tgt := 15) dX12_drop_9 (by decide) h (fun _ h => ?_) (fun _ h => ?_)
  · refine AW_aload_n dX12_drop_15 rfl ?_
    refine AW_iconst (v := 0) dX12_drop_16 (by decide) ?_
    refine AW_put (ci := 11) (k0 := 1) (C := RX12) (T := TX12) (N := 31) (ty0 := tyX12) dX12_drop_17 rfl (gT_u tU_X12) tyX12_ok nmX12 (by decide) (List.mem_cons_of_mem _ tF_X12_51) (Or.inl rfl) rfl rfl h (fun A3 _ h => ?_)
    refine AW_aload_n dX12_drop_20 rfl ?_
    refine AW_getR (ci := 11) (k0 := 2) (C := RX12) (T := TX12) (N := 31) dX12_drop_21 rfl (gT_u tU_X12) (by decide) (List.mem_cons_of_mem _ tF_X12_7) h (fun v4 _ h => ?_)
    refine AW_iload_n dX12_drop_24 rfl ?_
    refine AW_iald dX12_drop_25 h (fun v5 _ h => ?_)
    refine AW_if_ge (tgt := 35) dX12_drop_26 (by decide) h (fun _ h => ?_) (fun _ h => ?_)
    · refine AW_aload_n dX12_drop_35 rfl ?_
      refine AW_getR (ci := 11) (k0 := 2) (C := RX12) (T := TX12) (N := 31) dX12_drop_36 rfl (gT_u tU_X12) (by decide) (List.mem_cons_of_mem _ tF_X12_7) h (fun v6 _ h => ?_)
      refine AW_iload_n dX12_drop_39 rfl ?_
      refine AW_iconst (v := -1) dX12_drop_40 (by decide) ?_
      refine AW_iast dX12_drop_41 h (fun A7 _ h => ?_)
      refine AW_aload_n dX12_drop_42 rfl ?_
      refine AW_getR (ci := 11) (k0 := 3) (C := RX12) (T := TX12) (N := 31) dX12_drop_43 rfl (gT_u tU_X12) (by decide) (List.mem_cons_of_mem _ tF_X12_13) h (fun v8 _ h => ?_)
      refine AW_iload_n dX12_drop_46 rfl ?_
      refine AW_iald dX12_drop_47 h (fun v9 _ h => ?_)
      exact AW_iret dX12_drop_48 rfl ⟨Nat.zero_le _, Nat.zero_le _⟩ h
    · refine AW_aload_n dX12_drop_29 rfl ?_
      refine AW_iconst (v := 1) dX12_drop_30 (by decide) ?_
      refine AW_callVi (y := yX12_finding) (cc := cX12_finding) (n := 2) (d := 0) (mc := 0) (ms := 0) (np := 1) (ret := (some .int)) (As := [.int (1 : Int32)]) (st := []) (ci := 11) dX12_drop_31 gT_s rfl tM_X12_68 tI_X12_finding selp_X12_finding tIni_X12 tY_X12_finding (by decide +kernel) ⟨by decide, by decide⟩ ⟨by decide, by decide⟩ (Nat.le_of_ble_eq_true rfl) rfl h (fun q hq => c_X12_finding N _ _ _ q hq) (fun q10 _ h => ?_)
      exact AW_iret dX12_drop_34 rfl ⟨Nat.zero_le _, Nat.zero_le _⟩ h
  · refine AW_ldc (v := -1000001) dX12_drop_12 (List.mem_cons_of_mem _ tK_X12_67) ?_
    exact AW_iret dX12_drop_14 rfl ⟨Nat.zero_le _, Nat.zero_le _⟩ h
def f_X12_drop (N : Nat) (A : hP) (x0 : Option Nat) (x1 : Int32) : Option (Int32 × hP) := f_X12_drop_0 N A x0 x1
set_option maxRecDepth 20000 in
theorem c_X12_drop {l : Launch} (N : Nat) (A : hP) (x0 : Option Nat) (x1 : Int32) (res : Int32 × hP) (h : f_X12_drop N A x0 x1 = some res) : Ct l mX12_drop 2 0 0 A [va_rf x0, .int x1] (gi res) := Ct.of (lv := [(0, va_rf x0), (1, .int x1)]) (ls := [some (va_rf x0), some (.int x1)]) (by decide) (by simp [lv_args, g_cat_rf, cat_i, cat_l]) rfl (by simp [g_cat_rf, cat_i, cat_l]) (fun G => (t_X12_drop_0 N A x0 x1 res h))
abbrev mX12_feed : gM := gMk yX12_feed cX12_feed 5 (some .int)
def f_X12_feed_40 (N : Nat) : Nat → hP → Option Nat → Int64 → Int32 → Option (Int32 × hP)
  | 0, _, _, _, _ => none
  | n + 1, A, x0, x1, x4 => if x4 < (0) then ((oI A x0 11 8).bind fun v1 => some (v1, A)) else ((oR A x0 11 7).bind fun v2 => (oI A x0 11 8).bind fun v3 => (oS A v2 0 v3 (((x1 >>> (((8 : Int32) * x4).toInt64 &&& 63)) &&& (255 : Int64)).toInt32)).bind fun A4 => (oI A4 x0 11 8).bind fun v5 => (oP A4 x0 11 8 (.int (v5 + (1 : Int32)))).bind fun A6 => f_X12_feed_40 N n A6 x0 x1 (x4 + (-1 : Int32)))
set_option maxRecDepth 20000 in
set_option maxHeartbeats 4000000 in
theorem t_X12_feed_40 {l : Launch} {G : gS} (N : Nat) : ∀ (n : Nat) (A : hP) (x0 : Option Nat) (x1 : Int64) (x4 : Int32) (res : Int32 × hP), f_X12_feed_40 N n A x0 x1 x4 = some res → AW l mX12_feed (g_rm 1 0 0) G (g_Qf G (gi res) 0 0) A 0 0 40 [some (va_rf x0), some (.long x1), none, none, some (.int x4)] [] := by
  intro n
  induction n with
  | zero => intro A x0 x1 x4 res h; cases h
  | succ n ih =>
    intro A x0 x1 x4 res h
    rw [f_X12_feed_40] at h
    refine AW_iload dX12_feed_40 rfl ?_
    refine AW_if_lt (tgt := 82) dX12_feed_42 (by decide) h (fun _ h => ?_) (fun _ h => ?_)
    · refine AW_aload_n dX12_feed_82 rfl ?_
      refine AW_getI (ci := 11) (k0 := 8) (C := RX12) (T := TX12) (N := 31) dX12_feed_83 rfl (gT_u tU_X12) (by decide) (List.mem_cons_of_mem _ tF_X12_74) h (fun v1 _ h => ?_)
      exact AW_iret dX12_feed_86 rfl ⟨Nat.zero_le _, Nat.zero_le _⟩ h
    · refine AW_aload_n dX12_feed_45 rfl ?_
      refine AW_getR (ci := 11) (k0 := 7) (C := RX12) (T := TX12) (N := 31) dX12_feed_46 rfl (gT_u tU_X12) (by decide) (List.mem_cons_of_mem _ tF_X12_25) h (fun v2 _ h => ?_)
      refine AW_aload_n dX12_feed_49 rfl ?_
      refine AW_getI (ci := 11) (k0 := 8) (C := RX12) (T := TX12) (N := 31) dX12_feed_50 rfl (gT_u tU_X12) (by decide) (List.mem_cons_of_mem _ tF_X12_74) h (fun v3 _ h => ?_)
      refine AW_lload_n dX12_feed_53 rfl ?_
      refine AW_bipush (v := 8) dX12_feed_54 (by decide) ?_
      refine AW_iload dX12_feed_56 rfl ?_
      refine AW_imul dX12_feed_58 ?_
      refine AW_lshr dX12_feed_59 ?_
      refine AW_ldc2 (v := 255) dX12_feed_60 (List.mem_cons_of_mem _ tL_X12_78) ?_
      refine AW_land dX12_feed_63 ?_
      refine AW_l2i dX12_feed_64 ?_
      refine AW_iast dX12_feed_65 h (fun A4 _ h => ?_)
      refine AW_aload_n dX12_feed_66 rfl ?_
      refine AW_dup dX12_feed_67 (g_cat_rf _) ?_
      refine AW_getI (ci := 11) (k0 := 8) (C := RX12) (T := TX12) (N := 31) dX12_feed_68 rfl (gT_u tU_X12) (by decide) (List.mem_cons_of_mem _ tF_X12_74) h (fun v5 _ h => ?_)
      refine AW_iconst (v := 1) dX12_feed_71 (by decide) ?_
      refine AW_iadd dX12_feed_72 ?_
      refine AW_put (ci := 11) (k0 := 8) (C := RX12) (T := TX12) (N := 31) (ty0 := tyX12) dX12_feed_73 rfl (gT_u tU_X12) tyX12_ok nmX12 (by decide) (List.mem_cons_of_mem _ tF_X12_74) (Or.inl rfl) rfl rfl h (fun A6 _ h => ?_)
      refine AW_iinc (v := -1) (ls' := [some (va_rf x0), some (.long x1), none, none, some (.int (x4 + (-1 : Int32)))]) dX12_feed_76 rfl (c1_n rfl) (by decide) (by decide) rfl ?_
      refine AW_goto (tgt := 40) dX12_feed_79 (by decide) ?_
      exact (ih _ _ _ _ _ h)
def f_X12_feed_0 (N : Nat) (A : hP) (x0 : Option Nat) (x1 : Int64) (x3 : Int32) : Option (Int32 × hP) := (oP A x0 11 0 (.int (0 : Int32))).bind fun A7 => (f_X12_in N A7 x3.toInt64 (1 : Int64) (8 : Int64)).bind fun q8 => if q8.1 = (0) then (some ((-1000001 : Int32), q8.2)) else ((oI q8.2 x0 11 8).bind fun v9 => if (v9 + x3) ≤ (400 : Int32) then (f_X12_feed_40 N N q8.2 x0 x1 (x3 - (1 : Int32))) else (some ((-1000003 : Int32), q8.2)))
set_option maxRecDepth 20000 in
set_option maxHeartbeats 4000000 in
theorem t_X12_feed_0 {l : Launch} {G : gS} (N : Nat) (A : hP) (x0 : Option Nat) (x1 : Int64) (x3 : Int32) (res : Int32 × hP) (h : f_X12_feed_0 N A x0 x1 x3 = some res) : AW l mX12_feed (g_rm 1 0 0) G (g_Qf G (gi res) 0 0) A 0 0 0 [some (va_rf x0), some (.long x1), none, some (.int x3), none] [] := by
  unfold f_X12_feed_0 at h
  refine AW_aload_n dX12_feed_0 rfl ?_
  refine AW_iconst (v := 0) dX12_feed_1 (by decide) ?_
  refine AW_put (ci := 11) (k0 := 0) (C := RX12) (T := TX12) (N := 31) (ty0 := tyX12) dX12_feed_2 rfl (gT_u tU_X12) tyX12_ok nmX12 (by decide) (List.mem_cons_of_mem _ tF_X12_47) (Or.inl rfl) rfl rfl h (fun A7 _ h => ?_)
  refine AW_iload_n dX12_feed_5 rfl ?_
  refine AW_i2l dX12_feed_6 ?_
  refine AW_lconst (v := 1) dX12_feed_7 (by decide) ?_
  refine AW_ldc2 (v := 8) dX12_feed_8 (List.mem_cons_of_mem _ tL_X12_72) ?_
  refine AW_callSi (y := yX12_in) (cc := cX12_in) (n := 6) (d := 0) (mc := 0) (ms := 0) (np := 3) (ret := (some .boolean)) (As := [.long x3.toInt64, .long (1 : Int64), .long (8 : Int64)]) (st := []) dX12_feed_11 gT_s tM_X12_57 tS_X12_in tIni_X12 tY_X12_in (by decide +kernel) ⟨by decide, by decide⟩ ⟨by decide, by decide⟩ (Nat.le_of_ble_eq_true rfl) rfl h (fun q hq => c_X12_in N _ _ _ _ q hq) (fun q8 _ h => ?_)
  refine AW_if_ne (tgt := 20) dX12_feed_14 (by decide) h (fun _ h => ?_) (fun _ h => ?_)
  · refine AW_aload_n dX12_feed_20 rfl ?_
    refine AW_getI (ci := 11) (k0 := 8) (C := RX12) (T := TX12) (N := 31) dX12_feed_21 rfl (gT_u tU_X12) (by decide) (List.mem_cons_of_mem _ tF_X12_74) h (fun v9 _ h => ?_)
    refine AW_iload_n dX12_feed_24 rfl ?_
    refine AW_iadd dX12_feed_25 ?_
    refine AW_sipush (v := 400) dX12_feed_26 (by decide) ?_
    refine AW_icmp_le (tgt := 35) dX12_feed_29 (by decide) h (fun _ h => ?_) (fun _ h => ?_)
    · refine AW_iload_n dX12_feed_35 rfl ?_
      refine AW_iconst (v := 1) dX12_feed_36 (by decide) ?_
      refine AW_isub dX12_feed_37 ?_
      refine AW_istore (ls' := [some (va_rf x0), some (.long x1), none, some (.int x3), some (.int (x3 - (1 : Int32)))]) dX12_feed_38 (c1_i rfl) (by decide) rfl ?_
      exact AW_fewer (fw_k (fw_k (fw_k (fw_d (fw_k fw_n))))) (t_X12_feed_40 N N _ _ _ _ _ h)
    · refine AW_ldc (v := -1000003) dX12_feed_32 (List.mem_cons_of_mem _ tK_X12_77) ?_
      exact AW_iret dX12_feed_34 rfl ⟨Nat.zero_le _, Nat.zero_le _⟩ h
  · refine AW_ldc (v := -1000001) dX12_feed_17 (List.mem_cons_of_mem _ tK_X12_67) ?_
    exact AW_iret dX12_feed_19 rfl ⟨Nat.zero_le _, Nat.zero_le _⟩ h
def f_X12_feed (N : Nat) (A : hP) (x0 : Option Nat) (x1 : Int64) (x3 : Int32) : Option (Int32 × hP) := f_X12_feed_0 N A x0 x1 x3
set_option maxRecDepth 20000 in
theorem c_X12_feed {l : Launch} (N : Nat) (A : hP) (x0 : Option Nat) (x1 : Int64) (x3 : Int32) (res : Int32 × hP) (h : f_X12_feed N A x0 x1 x3 = some res) : Ct l mX12_feed 1 0 0 A [va_rf x0, .long x1, .int x3] (gi res) := Ct.of (lv := [(0, va_rf x0), (1, .long x1), (3, .int x3)]) (ls := [some (va_rf x0), some (.long x1), none, some (.int x3), none]) (by decide) (by simp [lv_args, g_cat_rf, cat_i, cat_l]) rfl (by simp [g_cat_rf, cat_i, cat_l]) (fun G => (t_X12_feed_0 N A x0 x1 x3 res h))
abbrev mX12_byteAt : gM := gMk yX12_byteAt cX12_byteAt 2 (some .int)
def f_X12_byteAt_19 (N : Nat) (A : hP) (s0 : Int32) : Option (Int32 × hP) := some (s0, A)
set_option maxRecDepth 20000 in
set_option maxHeartbeats 4000000 in
theorem t_X12_byteAt_19 {l : Launch} {G : gS} (N : Nat) (A : hP) (s0 : Int32) (res : Int32 × hP) (h : f_X12_byteAt_19 N A s0 = some res) : AW l mX12_byteAt (g_rm 0 0 0) G (g_Qf G (gi res) 0 0) A 0 0 19 [none, none] [.int s0] := by
  unfold f_X12_byteAt_19 at h
  exact AW_iret dX12_byteAt_19 rfl ⟨Nat.zero_le _, Nat.zero_le _⟩ h
def f_X12_byteAt_0 (N : Nat) (A : hP) (x0 : Option Nat) (x1 : Int32) : Option (Int32 × hP) := (oI A x0 11 10).bind fun v1 => if v1 ≤ x1 then (f_X12_byteAt_19 N A (-1000000 : Int32)) else ((oR A x0 11 7).bind fun v2 => (oA A v2 0 x1).bind fun v3 => f_X12_byteAt_19 N A v3)
set_option maxRecDepth 20000 in
set_option maxHeartbeats 4000000 in
theorem t_X12_byteAt_0 {l : Launch} {G : gS} (N : Nat) (A : hP) (x0 : Option Nat) (x1 : Int32) (res : Int32 × hP) (h : f_X12_byteAt_0 N A x0 x1 = some res) : AW l mX12_byteAt (g_rm 0 0 0) G (g_Qf G (gi res) 0 0) A 0 0 0 [some (va_rf x0), some (.int x1)] [] := by
  unfold f_X12_byteAt_0 at h
  refine AW_iload_n dX12_byteAt_0 rfl ?_
  refine AW_aload_n dX12_byteAt_1 rfl ?_
  refine AW_getI (ci := 11) (k0 := 10) (C := RX12) (T := TX12) (N := 31) dX12_byteAt_2 rfl (gT_u tU_X12) (by decide) (List.mem_cons_of_mem _ tF_X12_80) h (fun v1 _ h => ?_)
  refine AW_icmp_ge (tgt := 17) dX12_byteAt_5 (by decide) h (fun _ h => ?_) (fun _ h => ?_)
  · refine AW_ldc (v := -1000000) dX12_byteAt_17 (List.mem_cons_of_mem _ tK_X12_83) ?_
    exact AW_fewer (fw_d (fw_d fw_n)) (t_X12_byteAt_19 N _ _ _ h)
  · refine AW_aload_n dX12_byteAt_8 rfl ?_
    refine AW_getR (ci := 11) (k0 := 7) (C := RX12) (T := TX12) (N := 31) dX12_byteAt_9 rfl (gT_u tU_X12) (by decide) (List.mem_cons_of_mem _ tF_X12_25) h (fun v2 _ h => ?_)
    refine AW_iload_n dX12_byteAt_12 rfl ?_
    refine AW_iald dX12_byteAt_13 h (fun v3 _ h => ?_)
    refine AW_goto (tgt := 19) dX12_byteAt_14 (by decide) ?_
    exact AW_fewer (fw_d (fw_d fw_n)) (t_X12_byteAt_19 N _ _ _ h)
def f_X12_byteAt (N : Nat) (A : hP) (x0 : Option Nat) (x1 : Int32) : Option (Int32 × hP) := f_X12_byteAt_0 N A x0 x1
set_option maxRecDepth 20000 in
theorem c_X12_byteAt {l : Launch} (N : Nat) (A : hP) (x0 : Option Nat) (x1 : Int32) (res : Int32 × hP) (h : f_X12_byteAt N A x0 x1 = some res) : Ct l mX12_byteAt 0 0 0 A [va_rf x0, .int x1] (gi res) := Ct.of (lv := [(0, va_rf x0), (1, .int x1)]) (ls := [some (va_rf x0), some (.int x1)]) (by decide) (by simp [lv_args, g_cat_rf, cat_i, cat_l]) rfl (by simp [g_cat_rf, cat_i, cat_l]) (fun G => (t_X12_byteAt_0 N A x0 x1 res h))
abbrev mX12_isLetter : gM := gMk yX12_isLetter cX12_isLetter 1 (some .boolean)
def f_X12_isLetter_17 (N : Nat) (A : hP) (s0 : Int32) : Option (Int32 × hP) := if s0 = 0 ∨ s0 = 1 then some (s0, A) else none
set_option maxRecDepth 20000 in
set_option maxHeartbeats 4000000 in
theorem t_X12_isLetter_17 {l : Launch} {G : gS} (N : Nat) (A : hP) (s0 : Int32) (res : Int32 × hP) (h : f_X12_isLetter_17 N A s0 = some res) : AW l mX12_isLetter (g_rm 0 0 0) G (g_Qf G (gi res) 0 0) A 0 0 17 [none] [.int s0] := by
  unfold f_X12_isLetter_17 at h
  exact AW_zret dX12_isLetter_17 rfl ⟨Nat.zero_le _, Nat.zero_le _⟩ h
def f_X12_isLetter_16 (N : Nat) (A : hP) : Option (Int32 × hP) := f_X12_isLetter_17 N A (0 : Int32)
set_option maxRecDepth 20000 in
set_option maxHeartbeats 4000000 in
theorem t_X12_isLetter_16 {l : Launch} {G : gS} (N : Nat) (A : hP) (res : Int32 × hP) (h : f_X12_isLetter_16 N A  = some res) : AW l mX12_isLetter (g_rm 0 0 0) G (g_Qf G (gi res) 0 0) A 0 0 16 [none] [] := by
  unfold f_X12_isLetter_16 at h
  refine AW_iconst (v := 0) dX12_isLetter_16 (by decide) ?_
  exact (t_X12_isLetter_17 N _ _ _ h)
def f_X12_isLetter_0 (N : Nat) (A : hP) (x0 : Int32) : Option (Int32 × hP) := if x0 < (97 : Int32) then (f_X12_isLetter_16 N A) else (if (122 : Int32) < x0 then (f_X12_isLetter_16 N A) else (f_X12_isLetter_17 N A (1 : Int32)))
set_option maxRecDepth 20000 in
set_option maxHeartbeats 4000000 in
theorem t_X12_isLetter_0 {l : Launch} {G : gS} (N : Nat) (A : hP) (x0 : Int32) (res : Int32 × hP) (h : f_X12_isLetter_0 N A x0 = some res) : AW l mX12_isLetter (g_rm 0 0 0) G (g_Qf G (gi res) 0 0) A 0 0 0 [some (.int x0)] [] := by
  unfold f_X12_isLetter_0 at h
  refine AW_iload_n dX12_isLetter_0 rfl ?_
  refine AW_bipush (v := 97) dX12_isLetter_1 (by decide) ?_
  refine AW_icmp_lt (tgt := 16) dX12_isLetter_3 (by decide) h (fun _ h => ?_) (fun _ h => ?_)
  · exact AW_fewer (fw_d fw_n) (t_X12_isLetter_16 N _ _ h)
  · refine AW_iload_n dX12_isLetter_6 rfl ?_
    refine AW_bipush (v := 122) dX12_isLetter_7 (by decide) ?_
    refine AW_icmp_gt (tgt := 16) dX12_isLetter_9 (by decide) h (fun _ h => ?_) (fun _ h => ?_)
    · exact AW_fewer (fw_d fw_n) (t_X12_isLetter_16 N _ _ h)
    · refine AW_iconst (v := 1) dX12_isLetter_12 (by decide) ?_
      refine AW_goto (tgt := 17) dX12_isLetter_13 (by decide) ?_
      exact AW_fewer (fw_d fw_n) (t_X12_isLetter_17 N _ _ _ h)
def f_X12_isLetter (N : Nat) (A : hP) (x0 : Int32) : Option (Int32 × hP) := f_X12_isLetter_0 N A x0
set_option maxRecDepth 20000 in
theorem c_X12_isLetter {l : Launch} (N : Nat) (A : hP) (x0 : Int32) (res : Int32 × hP) (h : f_X12_isLetter N A x0 = some res) : Ct l mX12_isLetter 0 0 0 A [.int x0] (gi res) := Ct.of (lv := [(0, .int x0)]) (ls := [some (.int x0)]) (by decide) (by simp [lv_args, g_cat_rf, cat_i, cat_l]) rfl (by simp [g_cat_rf, cat_i, cat_l]) (fun G => (t_X12_isLetter_0 N A x0 res h))
abbrev mX12_isFigure : gM := gMk yX12_isFigure cX12_isFigure 1 (some .boolean)
def f_X12_isFigure_17 (N : Nat) (A : hP) (s0 : Int32) : Option (Int32 × hP) := if s0 = 0 ∨ s0 = 1 then some (s0, A) else none
set_option maxRecDepth 20000 in
set_option maxHeartbeats 4000000 in
theorem t_X12_isFigure_17 {l : Launch} {G : gS} (N : Nat) (A : hP) (s0 : Int32) (res : Int32 × hP) (h : f_X12_isFigure_17 N A s0 = some res) : AW l mX12_isFigure (g_rm 0 0 0) G (g_Qf G (gi res) 0 0) A 0 0 17 [none] [.int s0] := by
  unfold f_X12_isFigure_17 at h
  exact AW_zret dX12_isFigure_17 rfl ⟨Nat.zero_le _, Nat.zero_le _⟩ h
def f_X12_isFigure_16 (N : Nat) (A : hP) : Option (Int32 × hP) := f_X12_isFigure_17 N A (0 : Int32)
set_option maxRecDepth 20000 in
set_option maxHeartbeats 4000000 in
theorem t_X12_isFigure_16 {l : Launch} {G : gS} (N : Nat) (A : hP) (res : Int32 × hP) (h : f_X12_isFigure_16 N A  = some res) : AW l mX12_isFigure (g_rm 0 0 0) G (g_Qf G (gi res) 0 0) A 0 0 16 [none] [] := by
  unfold f_X12_isFigure_16 at h
  refine AW_iconst (v := 0) dX12_isFigure_16 (by decide) ?_
  exact (t_X12_isFigure_17 N _ _ _ h)
def f_X12_isFigure_0 (N : Nat) (A : hP) (x0 : Int32) : Option (Int32 × hP) := if x0 < (48 : Int32) then (f_X12_isFigure_16 N A) else (if (57 : Int32) < x0 then (f_X12_isFigure_16 N A) else (f_X12_isFigure_17 N A (1 : Int32)))
set_option maxRecDepth 20000 in
set_option maxHeartbeats 4000000 in
theorem t_X12_isFigure_0 {l : Launch} {G : gS} (N : Nat) (A : hP) (x0 : Int32) (res : Int32 × hP) (h : f_X12_isFigure_0 N A x0 = some res) : AW l mX12_isFigure (g_rm 0 0 0) G (g_Qf G (gi res) 0 0) A 0 0 0 [some (.int x0)] [] := by
  unfold f_X12_isFigure_0 at h
  refine AW_iload_n dX12_isFigure_0 rfl ?_
  refine AW_bipush (v := 48) dX12_isFigure_1 (by decide) ?_
  refine AW_icmp_lt (tgt := 16) dX12_isFigure_3 (by decide) h (fun _ h => ?_) (fun _ h => ?_)
  · exact AW_fewer (fw_d fw_n) (t_X12_isFigure_16 N _ _ h)
  · refine AW_iload_n dX12_isFigure_6 rfl ?_
    refine AW_bipush (v := 57) dX12_isFigure_7 (by decide) ?_
    refine AW_icmp_gt (tgt := 16) dX12_isFigure_9 (by decide) h (fun _ h => ?_) (fun _ h => ?_)
    · exact AW_fewer (fw_d fw_n) (t_X12_isFigure_16 N _ _ h)
    · refine AW_iconst (v := 1) dX12_isFigure_12 (by decide) ?_
      refine AW_goto (tgt := 17) dX12_isFigure_13 (by decide) ?_
      exact AW_fewer (fw_d fw_n) (t_X12_isFigure_17 N _ _ _ h)
def f_X12_isFigure (N : Nat) (A : hP) (x0 : Int32) : Option (Int32 × hP) := f_X12_isFigure_0 N A x0
set_option maxRecDepth 20000 in
theorem c_X12_isFigure {l : Launch} (N : Nat) (A : hP) (x0 : Int32) (res : Int32 × hP) (h : f_X12_isFigure N A x0 = some res) : Ct l mX12_isFigure 0 0 0 A [.int x0] (gi res) := Ct.of (lv := [(0, .int x0)]) (ls := [some (.int x0)]) (by decide) (by simp [lv_args, g_cat_rf, cat_i, cat_l]) rfl (by simp [g_cat_rf, cat_i, cat_l]) (fun G => (t_X12_isFigure_0 N A x0 res h))
abbrev mX12_nextToken : gM := gMk yX12_nextToken cX12_nextToken 2 none
def f_X12_nextToken_26 (N : Nat) (r0 : hP → Option Nat → Option (Unit × hP)) (A : hP) (x0 : Option Nat) : Option (Unit × hP) := (oI A x0 11 11).bind fun v1 => (oP A x0 11 11 (.int (v1 + (1 : Int32)))).bind fun A2 => r0 A2 x0
set_option maxRecDepth 20000 in
set_option maxHeartbeats 4000000 in
theorem t_X12_nextToken_26 {l : Launch} {G : gS} (N : Nat) (r0 : hP → Option Nat → Option (Unit × hP)) (hr0 : ∀ (A : hP) (x0 : Option Nat) (res : Unit × hP), r0 A x0 = some res → AW l mX12_nextToken (g_rm 1 0 0) G (g_Qf G (gu res) 0 0) A 0 0 0 [some (va_rf x0), none] []) (A : hP) (x0 : Option Nat) (res : Unit × hP) (h : f_X12_nextToken_26 N r0 A x0 = some res) : AW l mX12_nextToken (g_rm 1 0 0) G (g_Qf G (gu res) 0 0) A 0 0 26 [some (va_rf x0), none] [] := by
  unfold f_X12_nextToken_26 at h
  refine AW_aload_n dX12_nextToken_26 rfl ?_
  refine AW_dup dX12_nextToken_27 (g_cat_rf _) ?_
  refine AW_getI (ci := 11) (k0 := 11) (C := RX12) (T := TX12) (N := 31) dX12_nextToken_28 rfl (gT_u tU_X12) (by decide) (List.mem_cons_of_mem _ tF_X12_84) h (fun v1 _ h => ?_)
  refine AW_iconst (v := 1) dX12_nextToken_31 (by decide) ?_
  refine AW_iadd dX12_nextToken_32 ?_
  refine AW_put (ci := 11) (k0 := 11) (C := RX12) (T := TX12) (N := 31) (ty0 := tyX12) dX12_nextToken_33 rfl (gT_u tU_X12) tyX12_ok nmX12 (by decide) (List.mem_cons_of_mem _ tF_X12_84) (Or.inl rfl) rfl rfl h (fun A2 _ h => ?_)
  refine AW_goto (tgt := 0) dX12_nextToken_36 (by decide) ?_
  exact (hr0 _ _ _ h)
def f_X12_nextToken_196 (N : Nat) (A : hP) (x0 : Option Nat) : Option (Unit × hP) := (oI A x0 11 11).bind fun v3 => (oP A x0 11 14 (.int v3)).bind fun A4 => some ((), A4)
set_option maxRecDepth 20000 in
set_option maxHeartbeats 4000000 in
theorem t_X12_nextToken_196 {l : Launch} {G : gS} (N : Nat) (A : hP) (x0 : Option Nat) (res : Unit × hP) (h : f_X12_nextToken_196 N A x0 = some res) : AW l mX12_nextToken (g_rm 1 0 0) G (g_Qf G (gu res) 0 0) A 0 0 196 [some (va_rf x0), none] [] := by
  unfold f_X12_nextToken_196 at h
  refine AW_aload_n dX12_nextToken_196 rfl ?_
  refine AW_aload_n dX12_nextToken_197 rfl ?_
  refine AW_getI (ci := 11) (k0 := 11) (C := RX12) (T := TX12) (N := 31) dX12_nextToken_198 rfl (gT_u tU_X12) (by decide) (List.mem_cons_of_mem _ tF_X12_84) h (fun v3 _ h => ?_)
  refine AW_put (ci := 11) (k0 := 14) (C := RX12) (T := TX12) (N := 31) (ty0 := tyX12) dX12_nextToken_201 rfl (gT_u tU_X12) tyX12_ok nmX12 (by decide) (List.mem_cons_of_mem _ tF_X12_102) (Or.inl rfl) rfl rfl h (fun A4 _ h => ?_)
  exact AW_vret dX12_nextToken_204 rfl ⟨Nat.zero_le _, Nat.zero_le _⟩ h
def f_X12_nextToken_77 (N : Nat) : Nat → hP → Option Nat → Option (Unit × hP)
  | 0, _, _ => none
  | n + 1, A, x0 => (oI A x0 11 11).bind fun v5 => (oCk A x0 11).bind fun _ => (f_X12_byteAt N A x0 v5).bind fun q6 => (f_X12_isLetter N q6.2 q6.1).bind fun q7 => if q7.1 = (0) then ((oP q7.2 x0 11 12 (.int (2 : Int32))).bind fun A8 => f_X12_nextToken_196 N A8 x0) else ((oI q7.2 x0 11 11).bind fun v9 => (oP q7.2 x0 11 11 (.int (v9 + (1 : Int32)))).bind fun A10 => f_X12_nextToken_77 N n A10 x0)
set_option maxRecDepth 20000 in
set_option maxHeartbeats 4000000 in
theorem t_X12_nextToken_77 {l : Launch} {G : gS} (N : Nat) : ∀ (n : Nat) (A : hP) (x0 : Option Nat) (res : Unit × hP), f_X12_nextToken_77 N n A x0 = some res → AW l mX12_nextToken (g_rm 1 0 0) G (g_Qf G (gu res) 0 0) A 0 0 77 [some (va_rf x0), none] [] := by
  intro n
  induction n with
  | zero => intro A x0 res h; cases h
  | succ n ih =>
    intro A x0 res h
    rw [f_X12_nextToken_77] at h
    refine AW_aload_n dX12_nextToken_77 rfl ?_
    refine AW_aload_n dX12_nextToken_78 rfl ?_
    refine AW_getI (ci := 11) (k0 := 11) (C := RX12) (T := TX12) (N := 31) dX12_nextToken_79 rfl (gT_u tU_X12) (by decide) (List.mem_cons_of_mem _ tF_X12_84) h (fun v5 _ h => ?_)
    refine AW_callVi (y := yX12_byteAt) (cc := cX12_byteAt) (n := 2) (d := 0) (mc := 0) (ms := 0) (np := 1) (ret := (some .int)) (As := [.int v5]) (st := []) (ci := 11) dX12_nextToken_82 gT_s rfl tM_X12_87 tI_X12_byteAt selp_X12_byteAt tIni_X12 tY_X12_byteAt (by decide +kernel) ⟨by decide, by decide⟩ ⟨by decide, by decide⟩ (Nat.le_of_ble_eq_true rfl) rfl h (fun q hq => c_X12_byteAt N _ _ _ q hq) (fun q6 _ h => ?_)
    refine AW_callSi (y := yX12_isLetter) (cc := cX12_isLetter) (n := 1) (d := 0) (mc := 0) (ms := 0) (np := 1) (ret := (some .boolean)) (As := [.int q6.1]) (st := []) dX12_nextToken_85 gT_s tM_X12_96 tS_X12_isLetter tIni_X12 tY_X12_isLetter (by decide +kernel) ⟨by decide, by decide⟩ ⟨by decide, by decide⟩ (Nat.le_of_ble_eq_true rfl) rfl h (fun q hq => c_X12_isLetter N _ _ q hq) (fun q7 _ h => ?_)
    refine AW_if_eq (tgt := 104) dX12_nextToken_88 (by decide) h (fun _ h => ?_) (fun _ h => ?_)
    · refine AW_aload_n dX12_nextToken_104 rfl ?_
      refine AW_iconst (v := 2) dX12_nextToken_105 (by decide) ?_
      refine AW_put (ci := 11) (k0 := 12) (C := RX12) (T := TX12) (N := 31) (ty0 := tyX12) dX12_nextToken_106 rfl (gT_u tU_X12) tyX12_ok nmX12 (by decide) (List.mem_cons_of_mem _ tF_X12_93) (Or.inl rfl) rfl rfl h (fun A8 _ h => ?_)
      refine AW_goto (tgt := 196) dX12_nextToken_109 (by decide) ?_
      exact (t_X12_nextToken_196 N _ _ _ h)
    · refine AW_aload_n dX12_nextToken_91 rfl ?_
      refine AW_dup dX12_nextToken_92 (g_cat_rf _) ?_
      refine AW_getI (ci := 11) (k0 := 11) (C := RX12) (T := TX12) (N := 31) dX12_nextToken_93 rfl (gT_u tU_X12) (by decide) (List.mem_cons_of_mem _ tF_X12_84) h (fun v9 _ h => ?_)
      refine AW_iconst (v := 1) dX12_nextToken_96 (by decide) ?_
      refine AW_iadd dX12_nextToken_97 ?_
      refine AW_put (ci := 11) (k0 := 11) (C := RX12) (T := TX12) (N := 31) (ty0 := tyX12) dX12_nextToken_98 rfl (gT_u tU_X12) tyX12_ok nmX12 (by decide) (List.mem_cons_of_mem _ tF_X12_84) (Or.inl rfl) rfl rfl h (fun A10 _ h => ?_)
      refine AW_goto (tgt := 77) dX12_nextToken_101 (by decide) ?_
      exact (ih _ _ _ h)
def f_X12_nextToken_165 (N : Nat) (A : hP) (x0 : Option Nat) (s0 : Option Nat) (s1 : Int32) : Option (Unit × hP) := (oP A s0 11 12 (.int s1)).bind fun A11 => f_X12_nextToken_196 N A11 x0
set_option maxRecDepth 20000 in
set_option maxHeartbeats 4000000 in
theorem t_X12_nextToken_165 {l : Launch} {G : gS} (N : Nat) (A : hP) (x0 : Option Nat) (s0 : Option Nat) (s1 : Int32) (res : Unit × hP) (h : f_X12_nextToken_165 N A x0 s0 s1 = some res) : AW l mX12_nextToken (g_rm 1 0 0) G (g_Qf G (gu res) 0 0) A 0 0 165 [some (va_rf x0), none] [.int s1, va_rf s0] := by
  unfold f_X12_nextToken_165 at h
  refine AW_put (ci := 11) (k0 := 12) (C := RX12) (T := TX12) (N := 31) (ty0 := tyX12) dX12_nextToken_165 rfl (gT_u tU_X12) tyX12_ok nmX12 (by decide) (List.mem_cons_of_mem _ tF_X12_93) (Or.inl rfl) rfl rfl h (fun A11 _ h => ?_)
  refine AW_goto (tgt := 196) dX12_nextToken_168 (by decide) ?_
  exact (t_X12_nextToken_196 N _ _ _ h)
def f_X12_nextToken_119 (N : Nat) : Nat → hP → Option Nat → Option (Unit × hP)
  | 0, _, _ => none
  | n + 1, A, x0 => (oI A x0 11 11).bind fun v12 => (oCk A x0 11).bind fun _ => (f_X12_byteAt N A x0 v12).bind fun q13 => (f_X12_isFigure N q13.2 q13.1).bind fun q14 => if q14.1 = (0) then ((oI q14.2 x0 11 11).bind fun v15 => (oI q14.2 x0 11 13).bind fun v16 => if (v15 - v16) ≤ (3 : Int32) then (f_X12_nextToken_165 N q14.2 x0 x0 (3 : Int32)) else (f_X12_nextToken_165 N q14.2 x0 x0 (0 : Int32))) else ((oI q14.2 x0 11 11).bind fun v17 => (oP q14.2 x0 11 11 (.int (v17 + (1 : Int32)))).bind fun A18 => f_X12_nextToken_119 N n A18 x0)
set_option maxRecDepth 20000 in
set_option maxHeartbeats 4000000 in
theorem t_X12_nextToken_119 {l : Launch} {G : gS} (N : Nat) : ∀ (n : Nat) (A : hP) (x0 : Option Nat) (res : Unit × hP), f_X12_nextToken_119 N n A x0 = some res → AW l mX12_nextToken (g_rm 1 0 0) G (g_Qf G (gu res) 0 0) A 0 0 119 [some (va_rf x0), none] [] := by
  intro n
  induction n with
  | zero => intro A x0 res h; cases h
  | succ n ih =>
    intro A x0 res h
    rw [f_X12_nextToken_119] at h
    refine AW_aload_n dX12_nextToken_119 rfl ?_
    refine AW_aload_n dX12_nextToken_120 rfl ?_
    refine AW_getI (ci := 11) (k0 := 11) (C := RX12) (T := TX12) (N := 31) dX12_nextToken_121 rfl (gT_u tU_X12) (by decide) (List.mem_cons_of_mem _ tF_X12_84) h (fun v12 _ h => ?_)
    refine AW_callVi (y := yX12_byteAt) (cc := cX12_byteAt) (n := 2) (d := 0) (mc := 0) (ms := 0) (np := 1) (ret := (some .int)) (As := [.int v12]) (st := []) (ci := 11) dX12_nextToken_124 gT_s rfl tM_X12_87 tI_X12_byteAt selp_X12_byteAt tIni_X12 tY_X12_byteAt (by decide +kernel) ⟨by decide, by decide⟩ ⟨by decide, by decide⟩ (Nat.le_of_ble_eq_true rfl) rfl h (fun q hq => c_X12_byteAt N _ _ _ q hq) (fun q13 _ h => ?_)
    refine AW_callSi (y := yX12_isFigure) (cc := cX12_isFigure) (n := 1) (d := 0) (mc := 0) (ms := 0) (np := 1) (ret := (some .boolean)) (As := [.int q13.1]) (st := []) dX12_nextToken_127 gT_s tM_X12_99 tS_X12_isFigure tIni_X12 tY_X12_isFigure (by decide +kernel) ⟨by decide, by decide⟩ ⟨by decide, by decide⟩ (Nat.le_of_ble_eq_true rfl) rfl h (fun q hq => c_X12_isFigure N _ _ q hq) (fun q14 _ h => ?_)
    refine AW_if_eq (tgt := 146) dX12_nextToken_130 (by decide) h (fun _ h => ?_) (fun _ h => ?_)
    · refine AW_aload_n dX12_nextToken_146 rfl ?_
      refine AW_aload_n dX12_nextToken_147 rfl ?_
      refine AW_getI (ci := 11) (k0 := 11) (C := RX12) (T := TX12) (N := 31) dX12_nextToken_148 rfl (gT_u tU_X12) (by decide) (List.mem_cons_of_mem _ tF_X12_84) h (fun v15 _ h => ?_)
      refine AW_aload_n dX12_nextToken_151 rfl ?_
      refine AW_getI (ci := 11) (k0 := 13) (C := RX12) (T := TX12) (N := 31) dX12_nextToken_152 rfl (gT_u tU_X12) (by decide) (List.mem_cons_of_mem _ tF_X12_90) h (fun v16 _ h => ?_)
      refine AW_isub dX12_nextToken_155 ?_
      refine AW_iconst (v := 3) dX12_nextToken_156 (by decide) ?_
      refine AW_icmp_le (tgt := 164) dX12_nextToken_157 (by decide) h (fun _ h => ?_) (fun _ h => ?_)
      · refine AW_iconst (v := 3) dX12_nextToken_164 (by decide) ?_
        exact (t_X12_nextToken_165 N _ _ _ _ _ h)
      · refine AW_iconst (v := 0) dX12_nextToken_160 (by decide) ?_
        refine AW_goto (tgt := 165) dX12_nextToken_161 (by decide) ?_
        exact (t_X12_nextToken_165 N _ _ _ _ _ h)
    · refine AW_aload_n dX12_nextToken_133 rfl ?_
      refine AW_dup dX12_nextToken_134 (g_cat_rf _) ?_
      refine AW_getI (ci := 11) (k0 := 11) (C := RX12) (T := TX12) (N := 31) dX12_nextToken_135 rfl (gT_u tU_X12) (by decide) (List.mem_cons_of_mem _ tF_X12_84) h (fun v17 _ h => ?_)
      refine AW_iconst (v := 1) dX12_nextToken_138 (by decide) ?_
      refine AW_iadd dX12_nextToken_139 ?_
      refine AW_put (ci := 11) (k0 := 11) (C := RX12) (T := TX12) (N := 31) (ty0 := tyX12) dX12_nextToken_140 rfl (gT_u tU_X12) tyX12_ok nmX12 (by decide) (List.mem_cons_of_mem _ tF_X12_84) (Or.inl rfl) rfl rfl h (fun A18 _ h => ?_)
      refine AW_goto (tgt := 119) dX12_nextToken_143 (by decide) ?_
      exact (ih _ _ _ h)
def f_X12_nextToken_193 (N : Nat) (A : hP) (x0 : Option Nat) (s0 : Option Nat) (s1 : Int32) : Option (Unit × hP) := (oP A s0 11 12 (.int s1)).bind fun A19 => f_X12_nextToken_196 N A19 x0
set_option maxRecDepth 20000 in
set_option maxHeartbeats 4000000 in
theorem t_X12_nextToken_193 {l : Launch} {G : gS} (N : Nat) (A : hP) (x0 : Option Nat) (s0 : Option Nat) (s1 : Int32) (res : Unit × hP) (h : f_X12_nextToken_193 N A x0 s0 s1 = some res) : AW l mX12_nextToken (g_rm 1 0 0) G (g_Qf G (gu res) 0 0) A 0 0 193 [some (va_rf x0), none] [.int s1, va_rf s0] := by
  unfold f_X12_nextToken_193 at h
  refine AW_put (ci := 11) (k0 := 12) (C := RX12) (T := TX12) (N := 31) (ty0 := tyX12) dX12_nextToken_193 rfl (gT_u tU_X12) tyX12_ok nmX12 (by decide) (List.mem_cons_of_mem _ tF_X12_93) (Or.inl rfl) rfl rfl h (fun A19 _ h => ?_)
  exact (t_X12_nextToken_196 N _ _ _ h)
def f_X12_nextToken_0 (N : Nat) : Nat → hP → Option Nat → Option (Unit × hP)
  | 0, _, _ => none
  | n + 1, A, x0 => (oI A x0 11 11).bind fun v20 => (oCk A x0 11).bind fun _ => (f_X12_byteAt N A x0 v20).bind fun q21 => if q21.1 = (32 : Int32) then (f_X12_nextToken_26 N (f_X12_nextToken_0 N n) q21.2 x0) else ((oI q21.2 x0 11 11).bind fun v22 => (oCk q21.2 x0 11).bind fun _ => (f_X12_byteAt N q21.2 x0 v22).bind fun q23 => if q23.1 = (10 : Int32) then (f_X12_nextToken_26 N (f_X12_nextToken_0 N n) q23.2 x0) else ((oI q23.2 x0 11 11).bind fun v24 => (oP q23.2 x0 11 13 (.int v24)).bind fun A25 => (oI A25 x0 11 11).bind fun v26 => (oCk A25 x0 11).bind fun _ => (f_X12_byteAt N A25 x0 v26).bind fun q27 => if q27.1 = (-1000000 : Int32) then ((oP q27.2 x0 11 12 (.int (1 : Int32))).bind fun A32 => f_X12_nextToken_196 N A32 x0) else ((f_X12_isLetter N q27.2 q27.1).bind fun q28 => if q28.1 = (0) then ((f_X12_isFigure N q28.2 q27.1).bind fun q29 => if q29.1 = (0) then ((oI q29.2 x0 11 11).bind fun v30 => (oP q29.2 x0 11 11 (.int (v30 + (1 : Int32)))).bind fun A31 => if q27.1 = (59 : Int32) then (f_X12_nextToken_193 N A31 x0 x0 (4 : Int32)) else (f_X12_nextToken_193 N A31 x0 x0 (0 : Int32))) else (f_X12_nextToken_119 N N q29.2 x0)) else (f_X12_nextToken_77 N N q28.2 x0))))
set_option maxRecDepth 20000 in
set_option maxHeartbeats 4000000 in
theorem t_X12_nextToken_0 {l : Launch} {G : gS} (N : Nat) : ∀ (n : Nat) (A : hP) (x0 : Option Nat) (res : Unit × hP), f_X12_nextToken_0 N n A x0 = some res → AW l mX12_nextToken (g_rm 1 0 0) G (g_Qf G (gu res) 0 0) A 0 0 0 [some (va_rf x0), none] [] := by
  intro n
  induction n with
  | zero => intro A x0 res h; cases h
  | succ n ih =>
    intro A x0 res h
    rw [f_X12_nextToken_0] at h
    refine AW_aload_n dX12_nextToken_0 rfl ?_
    refine AW_aload_n dX12_nextToken_1 rfl ?_
    refine AW_getI (ci := 11) (k0 := 11) (C := RX12) (T := TX12) (N := 31) dX12_nextToken_2 rfl (gT_u tU_X12) (by decide) (List.mem_cons_of_mem _ tF_X12_84) h (fun v20 _ h => ?_)
    refine AW_callVi (y := yX12_byteAt) (cc := cX12_byteAt) (n := 2) (d := 0) (mc := 0) (ms := 0) (np := 1) (ret := (some .int)) (As := [.int v20]) (st := []) (ci := 11) dX12_nextToken_5 gT_s rfl tM_X12_87 tI_X12_byteAt selp_X12_byteAt tIni_X12 tY_X12_byteAt (by decide +kernel) ⟨by decide, by decide⟩ ⟨by decide, by decide⟩ (Nat.le_of_ble_eq_true rfl) rfl h (fun q hq => c_X12_byteAt N _ _ _ q hq) (fun q21 _ h => ?_)
    refine AW_bipush (v := 32) dX12_nextToken_8 (by decide) ?_
    refine AW_icmp_eq (tgt := 26) dX12_nextToken_10 (by decide) h (fun _ h => ?_) (fun _ h => ?_)
    · exact (t_X12_nextToken_26 N (f_X12_nextToken_0 N n) ih _ _ _ h)
    · refine AW_aload_n dX12_nextToken_13 rfl ?_
      refine AW_aload_n dX12_nextToken_14 rfl ?_
      refine AW_getI (ci := 11) (k0 := 11) (C := RX12) (T := TX12) (N := 31) dX12_nextToken_15 rfl (gT_u tU_X12) (by decide) (List.mem_cons_of_mem _ tF_X12_84) h (fun v22 _ h => ?_)
      refine AW_callVi (y := yX12_byteAt) (cc := cX12_byteAt) (n := 2) (d := 0) (mc := 0) (ms := 0) (np := 1) (ret := (some .int)) (As := [.int v22]) (st := []) (ci := 11) dX12_nextToken_18 gT_s rfl tM_X12_87 tI_X12_byteAt selp_X12_byteAt tIni_X12 tY_X12_byteAt (by decide +kernel) ⟨by decide, by decide⟩ ⟨by decide, by decide⟩ (Nat.le_of_ble_eq_true rfl) rfl h (fun q hq => c_X12_byteAt N _ _ _ q hq) (fun q23 _ h => ?_)
      refine AW_bipush (v := 10) dX12_nextToken_21 (by decide) ?_
      refine AW_icmp_ne (tgt := 39) dX12_nextToken_23 (by decide) h (fun _ h => ?_) (fun _ h => ?_)
      · refine AW_aload_n dX12_nextToken_39 rfl ?_
        refine AW_aload_n dX12_nextToken_40 rfl ?_
        refine AW_getI (ci := 11) (k0 := 11) (C := RX12) (T := TX12) (N := 31) dX12_nextToken_41 rfl (gT_u tU_X12) (by decide) (List.mem_cons_of_mem _ tF_X12_84) h (fun v24 _ h => ?_)
        refine AW_put (ci := 11) (k0 := 13) (C := RX12) (T := TX12) (N := 31) (ty0 := tyX12) dX12_nextToken_44 rfl (gT_u tU_X12) tyX12_ok nmX12 (by decide) (List.mem_cons_of_mem _ tF_X12_90) (Or.inl rfl) rfl rfl h (fun A25 _ h => ?_)
        refine AW_aload_n dX12_nextToken_47 rfl ?_
        refine AW_aload_n dX12_nextToken_48 rfl ?_
        refine AW_getI (ci := 11) (k0 := 11) (C := RX12) (T := TX12) (N := 31) dX12_nextToken_49 rfl (gT_u tU_X12) (by decide) (List.mem_cons_of_mem _ tF_X12_84) h (fun v26 _ h => ?_)
        refine AW_callVi (y := yX12_byteAt) (cc := cX12_byteAt) (n := 2) (d := 0) (mc := 0) (ms := 0) (np := 1) (ret := (some .int)) (As := [.int v26]) (st := []) (ci := 11) dX12_nextToken_52 gT_s rfl tM_X12_87 tI_X12_byteAt selp_X12_byteAt tIni_X12 tY_X12_byteAt (by decide +kernel) ⟨by decide, by decide⟩ ⟨by decide, by decide⟩ (Nat.le_of_ble_eq_true rfl) rfl h (fun q hq => c_X12_byteAt N _ _ _ q hq) (fun q27 _ h => ?_)
        refine AW_istore_n (ls' := [some (va_rf x0), some (.int q27.1)]) dX12_nextToken_55 (c1_r rfl) (by decide) rfl ?_
        refine AW_iload_n dX12_nextToken_56 rfl ?_
        refine AW_ldc (v := -1000000) dX12_nextToken_57 (List.mem_cons_of_mem _ tK_X12_83) ?_
        refine AW_icmp_ne (tgt := 70) dX12_nextToken_59 (by decide) h (fun _ h => ?_) (fun _ h => ?_)
        · refine AW_iload_n dX12_nextToken_70 rfl ?_
          refine AW_callSi (y := yX12_isLetter) (cc := cX12_isLetter) (n := 1) (d := 0) (mc := 0) (ms := 0) (np := 1) (ret := (some .boolean)) (As := [.int q27.1]) (st := []) dX12_nextToken_71 gT_s tM_X12_96 tS_X12_isLetter tIni_X12 tY_X12_isLetter (by decide +kernel) ⟨by decide, by decide⟩ ⟨by decide, by decide⟩ (Nat.le_of_ble_eq_true rfl) rfl h (fun q hq => c_X12_isLetter N _ _ q hq) (fun q28 _ h => ?_)
          refine AW_if_eq (tgt := 112) dX12_nextToken_74 (by decide) h (fun _ h => ?_) (fun _ h => ?_)
          · refine AW_iload_n dX12_nextToken_112 rfl ?_
            refine AW_callSi (y := yX12_isFigure) (cc := cX12_isFigure) (n := 1) (d := 0) (mc := 0) (ms := 0) (np := 1) (ret := (some .boolean)) (As := [.int q27.1]) (st := []) dX12_nextToken_113 gT_s tM_X12_99 tS_X12_isFigure tIni_X12 tY_X12_isFigure (by decide +kernel) ⟨by decide, by decide⟩ ⟨by decide, by decide⟩ (Nat.le_of_ble_eq_true rfl) rfl h (fun q hq => c_X12_isFigure N _ _ q hq) (fun q29 _ h => ?_)
            refine AW_if_eq (tgt := 171) dX12_nextToken_116 (by decide) h (fun _ h => ?_) (fun _ h => ?_)
            · refine AW_aload_n dX12_nextToken_171 rfl ?_
              refine AW_dup dX12_nextToken_172 (g_cat_rf _) ?_
              refine AW_getI (ci := 11) (k0 := 11) (C := RX12) (T := TX12) (N := 31) dX12_nextToken_173 rfl (gT_u tU_X12) (by decide) (List.mem_cons_of_mem _ tF_X12_84) h (fun v30 _ h => ?_)
              refine AW_iconst (v := 1) dX12_nextToken_176 (by decide) ?_
              refine AW_iadd dX12_nextToken_177 ?_
              refine AW_put (ci := 11) (k0 := 11) (C := RX12) (T := TX12) (N := 31) (ty0 := tyX12) dX12_nextToken_178 rfl (gT_u tU_X12) tyX12_ok nmX12 (by decide) (List.mem_cons_of_mem _ tF_X12_84) (Or.inl rfl) rfl rfl h (fun A31 _ h => ?_)
              refine AW_aload_n dX12_nextToken_181 rfl ?_
              refine AW_iload_n dX12_nextToken_182 rfl ?_
              refine AW_bipush (v := 59) dX12_nextToken_183 (by decide) ?_
              refine AW_icmp_ne (tgt := 192) dX12_nextToken_185 (by decide) h (fun _ h => ?_) (fun _ h => ?_)
              · refine AW_iconst (v := 0) dX12_nextToken_192 (by decide) ?_
                exact AW_fewer (fw_k (fw_d fw_n)) (t_X12_nextToken_193 N _ _ _ _ _ h)
              · refine AW_iconst (v := 4) dX12_nextToken_188 (by decide) ?_
                refine AW_goto (tgt := 193) dX12_nextToken_189 (by decide) ?_
                exact AW_fewer (fw_k (fw_d fw_n)) (t_X12_nextToken_193 N _ _ _ _ _ h)
            · exact AW_fewer (fw_k (fw_d fw_n)) (t_X12_nextToken_119 N N _ _ _ h)
          · exact AW_fewer (fw_k (fw_d fw_n)) (t_X12_nextToken_77 N N _ _ _ h)
        · refine AW_aload_n dX12_nextToken_62 rfl ?_
          refine AW_iconst (v := 1) dX12_nextToken_63 (by decide) ?_
          refine AW_put (ci := 11) (k0 := 12) (C := RX12) (T := TX12) (N := 31) (ty0 := tyX12) dX12_nextToken_64 rfl (gT_u tU_X12) tyX12_ok nmX12 (by decide) (List.mem_cons_of_mem _ tF_X12_93) (Or.inl rfl) rfl rfl h (fun A32 _ h => ?_)
          refine AW_goto (tgt := 196) dX12_nextToken_67 (by decide) ?_
          exact AW_fewer (fw_k (fw_d fw_n)) (t_X12_nextToken_196 N _ _ _ h)
      · exact (t_X12_nextToken_26 N (f_X12_nextToken_0 N n) ih _ _ _ h)
def f_X12_nextToken (N : Nat) (A : hP) (x0 : Option Nat) : Option (Unit × hP) := f_X12_nextToken_0 N N A x0
set_option maxRecDepth 20000 in
theorem c_X12_nextToken {l : Launch} (N : Nat) (A : hP) (x0 : Option Nat) (res : Unit × hP) (h : f_X12_nextToken N A x0 = some res) : Ct l mX12_nextToken 1 0 0 A [va_rf x0] (gu res) := Ct.of (lv := [(0, va_rf x0)]) (ls := [some (va_rf x0), none]) (by decide) (by simp [lv_args, g_cat_rf, cat_i, cat_l]) rfl (by simp [g_cat_rf, cat_i, cat_l]) (fun G => (t_X12_nextToken_0 N N A x0 res h))
abbrev mX12_begin : gM := gMk yX12_begin cX12_begin 1 none
def f_X12_begin_0 (N : Nat) (A : hP) (x0 : Option Nat) : Option (Unit × hP) := (oI A x0 11 8).bind fun v1 => (oP A x0 11 10 (.int v1)).bind fun A2 => (oP A2 x0 11 8 (.int (0 : Int32))).bind fun A3 => (oP A3 x0 11 11 (.int (0 : Int32))).bind fun A4 => (oP A4 x0 11 15 (.int (0 : Int32))).bind fun A5 => (oCk A5 x0 11).bind fun _ => (f_X12_nextToken N A5 x0).bind fun q6 => some ((), q6.2)
set_option maxRecDepth 20000 in
set_option maxHeartbeats 4000000 in
theorem t_X12_begin_0 {l : Launch} {G : gS} (N : Nat) (A : hP) (x0 : Option Nat) (res : Unit × hP) (h : f_X12_begin_0 N A x0 = some res) : AW l mX12_begin (g_rm 2 0 0) G (g_Qf G (gu res) 0 0) A 0 0 0 [some (va_rf x0)] [] := by
  unfold f_X12_begin_0 at h
  refine AW_aload_n dX12_begin_0 rfl ?_
  refine AW_aload_n dX12_begin_1 rfl ?_
  refine AW_getI (ci := 11) (k0 := 8) (C := RX12) (T := TX12) (N := 31) dX12_begin_2 rfl (gT_u tU_X12) (by decide) (List.mem_cons_of_mem _ tF_X12_74) h (fun v1 _ h => ?_)
  refine AW_put (ci := 11) (k0 := 10) (C := RX12) (T := TX12) (N := 31) (ty0 := tyX12) dX12_begin_5 rfl (gT_u tU_X12) tyX12_ok nmX12 (by decide) (List.mem_cons_of_mem _ tF_X12_80) (Or.inl rfl) rfl rfl h (fun A2 _ h => ?_)
  refine AW_aload_n dX12_begin_8 rfl ?_
  refine AW_iconst (v := 0) dX12_begin_9 (by decide) ?_
  refine AW_put (ci := 11) (k0 := 8) (C := RX12) (T := TX12) (N := 31) (ty0 := tyX12) dX12_begin_10 rfl (gT_u tU_X12) tyX12_ok nmX12 (by decide) (List.mem_cons_of_mem _ tF_X12_74) (Or.inl rfl) rfl rfl h (fun A3 _ h => ?_)
  refine AW_aload_n dX12_begin_13 rfl ?_
  refine AW_iconst (v := 0) dX12_begin_14 (by decide) ?_
  refine AW_put (ci := 11) (k0 := 11) (C := RX12) (T := TX12) (N := 31) (ty0 := tyX12) dX12_begin_15 rfl (gT_u tU_X12) tyX12_ok nmX12 (by decide) (List.mem_cons_of_mem _ tF_X12_84) (Or.inl rfl) rfl rfl h (fun A4 _ h => ?_)
  refine AW_aload_n dX12_begin_18 rfl ?_
  refine AW_iconst (v := 0) dX12_begin_19 (by decide) ?_
  refine AW_put (ci := 11) (k0 := 15) (C := RX12) (T := TX12) (N := 31) (ty0 := tyX12) dX12_begin_20 rfl (gT_u tU_X12) tyX12_ok nmX12 (by decide) (List.mem_cons_of_mem _ tF_X12_105) (Or.inl rfl) rfl rfl h (fun A5 _ h => ?_)
  refine AW_aload_n dX12_begin_23 rfl ?_
  refine AW_callVu (y := yX12_nextToken) (cc := cX12_nextToken) (n := 2) (d := 1) (mc := 0) (ms := 0) (np := 0) (ret := none) (As := []) (st := []) (ci := 11) dX12_begin_24 gT_s rfl tM_X12_108 tI_X12_nextToken selp_X12_nextToken tIni_X12 tY_X12_nextToken (by decide +kernel) ⟨by decide, by decide⟩ ⟨by decide, by decide⟩ (Nat.le_of_ble_eq_true rfl) rfl h (fun q hq => c_X12_nextToken N _ _ q hq) (fun q6 _ h => ?_)
  exact AW_vret dX12_begin_27 rfl ⟨Nat.zero_le _, Nat.zero_le _⟩ h
def f_X12_begin (N : Nat) (A : hP) (x0 : Option Nat) : Option (Unit × hP) := f_X12_begin_0 N A x0
set_option maxRecDepth 20000 in
theorem c_X12_begin {l : Launch} (N : Nat) (A : hP) (x0 : Option Nat) (res : Unit × hP) (h : f_X12_begin N A x0 = some res) : Ct l mX12_begin 2 0 0 A [va_rf x0] (gu res) := Ct.of (lv := [(0, va_rf x0)]) (ls := [some (va_rf x0)]) (by decide) (by simp [lv_args, g_cat_rf, cat_i, cat_l]) rfl (by simp [g_cat_rf, cat_i, cat_l]) (fun G => (t_X12_begin_0 N A x0 res h))
abbrev mX12_name : gM := gMk yX12_name cX12_name 4 (some .long)
def f_X12_name_68 (N : Nat) (A : hP) (s0 : Int64) : Option (Int64 × hP) := some (s0, A)
set_option maxRecDepth 20000 in
set_option maxHeartbeats 4000000 in
theorem t_X12_name_68 {l : Launch} {G : gS} (N : Nat) (A : hP) (s0 : Int64) (res : Int64 × hP) (h : f_X12_name_68 N A s0 = some res) : AW l mX12_name (g_rm 0 0 0) G (g_Qf G (gl res) 0 0) A 0 0 68 [none, none, none, none] [.long s0] := by
  unfold f_X12_name_68 at h
  exact AW_lret dX12_name_68 rfl ⟨Nat.zero_le _, Nat.zero_le _⟩ h
def f_X12_name_56 (N : Nat) (A : hP) (x0 : Option Nat) (x1 : Int64) : Option (Int64 × hP) := (oI A x0 11 15).bind fun v1 => if v1 = (0) then (f_X12_name_68 N A x1) else (f_X12_name_68 N A (0 : Int64))
set_option maxRecDepth 20000 in
set_option maxHeartbeats 4000000 in
theorem t_X12_name_56 {l : Launch} {G : gS} (N : Nat) (A : hP) (x0 : Option Nat) (x1 : Int64) (res : Int64 × hP) (h : f_X12_name_56 N A x0 x1 = some res) : AW l mX12_name (g_rm 0 0 0) G (g_Qf G (gl res) 0 0) A 0 0 56 [some (va_rf x0), some (.long x1), none, none] [] := by
  unfold f_X12_name_56 at h
  refine AW_aload_n dX12_name_56 rfl ?_
  refine AW_getI (ci := 11) (k0 := 15) (C := RX12) (T := TX12) (N := 31) dX12_name_57 rfl (gT_u tU_X12) (by decide) (List.mem_cons_of_mem _ tF_X12_105) h (fun v1 _ h => ?_)
  refine AW_if_ne (tgt := 67) dX12_name_60 (by decide) h (fun _ h => ?_) (fun _ h => ?_)
  · refine AW_lconst (v := 0) dX12_name_67 (by decide) ?_
    exact AW_fewer (fw_d (fw_d (fw_k (fw_k fw_n)))) (t_X12_name_68 N _ _ _ h)
  · refine AW_lload_n dX12_name_63 rfl ?_
    refine AW_goto (tgt := 68) dX12_name_64 (by decide) ?_
    exact AW_fewer (fw_d (fw_d (fw_k (fw_k fw_n)))) (t_X12_name_68 N _ _ _ h)
def f_X12_name_7 (N : Nat) : Nat → hP → Option Nat → Int64 → Int32 → Option (Int64 × hP)
  | 0, _, _, _, _ => none
  | n + 1, A, x0, x1, x3 => (oI A x0 11 14).bind fun v2 => if v2 ≤ x3 then (f_X12_name_56 N A x0 x1) else ((oI A x0 11 12).bind fun v3 => if v3 = (2 : Int32) then ((oI A x0 11 14).bind fun v4 => (oI A x0 11 13).bind fun v5 => if (8 : Int32) ≤ (v4 - v5) then (f_X12_name_56 N A x0 x1) else ((oR A x0 11 7).bind fun v6 => (oA A v6 0 x3).bind fun v7 => f_X12_name_7 N n A x0 ((x1 <<< ((8 : Int32).toInt64 &&& 63)) ||| v7.toInt64) (x3 + (1 : Int32)))) else (f_X12_name_56 N A x0 x1))
set_option maxRecDepth 20000 in
set_option maxHeartbeats 4000000 in
theorem t_X12_name_7 {l : Launch} {G : gS} (N : Nat) : ∀ (n : Nat) (A : hP) (x0 : Option Nat) (x1 : Int64) (x3 : Int32) (res : Int64 × hP), f_X12_name_7 N n A x0 x1 x3 = some res → AW l mX12_name (g_rm 0 0 0) G (g_Qf G (gl res) 0 0) A 0 0 7 [some (va_rf x0), some (.long x1), none, some (.int x3)] [] := by
  intro n
  induction n with
  | zero => intro A x0 x1 x3 res h; cases h
  | succ n ih =>
    intro A x0 x1 x3 res h
    rw [f_X12_name_7] at h
    refine AW_iload_n dX12_name_7 rfl ?_
    refine AW_aload_n dX12_name_8 rfl ?_
    refine AW_getI (ci := 11) (k0 := 14) (C := RX12) (T := TX12) (N := 31) dX12_name_9 rfl (gT_u tU_X12) (by decide) (List.mem_cons_of_mem _ tF_X12_102) h (fun v2 _ h => ?_)
    refine AW_icmp_ge (tgt := 56) dX12_name_12 (by decide) h (fun _ h => ?_) (fun _ h => ?_)
    · exact AW_fewer (fw_k (fw_k (fw_k (fw_d fw_n)))) (t_X12_name_56 N _ _ _ _ h)
    · refine AW_aload_n dX12_name_15 rfl ?_
      refine AW_getI (ci := 11) (k0 := 12) (C := RX12) (T := TX12) (N := 31) dX12_name_16 rfl (gT_u tU_X12) (by decide) (List.mem_cons_of_mem _ tF_X12_93) h (fun v3 _ h => ?_)
      refine AW_iconst (v := 2) dX12_name_19 (by decide) ?_
      refine AW_icmp_ne (tgt := 56) dX12_name_20 (by decide) h (fun _ h => ?_) (fun _ h => ?_)
      · exact AW_fewer (fw_k (fw_k (fw_k (fw_d fw_n)))) (t_X12_name_56 N _ _ _ _ h)
      · refine AW_aload_n dX12_name_23 rfl ?_
        refine AW_getI (ci := 11) (k0 := 14) (C := RX12) (T := TX12) (N := 31) dX12_name_24 rfl (gT_u tU_X12) (by decide) (List.mem_cons_of_mem _ tF_X12_102) h (fun v4 _ h => ?_)
        refine AW_aload_n dX12_name_27 rfl ?_
        refine AW_getI (ci := 11) (k0 := 13) (C := RX12) (T := TX12) (N := 31) dX12_name_28 rfl (gT_u tU_X12) (by decide) (List.mem_cons_of_mem _ tF_X12_90) h (fun v5 _ h => ?_)
        refine AW_isub dX12_name_31 ?_
        refine AW_bipush (v := 8) dX12_name_32 (by decide) ?_
        refine AW_icmp_ge (tgt := 56) dX12_name_34 (by decide) h (fun _ h => ?_) (fun _ h => ?_)
        · exact AW_fewer (fw_k (fw_k (fw_k (fw_d fw_n)))) (t_X12_name_56 N _ _ _ _ h)
        · refine AW_lload_n dX12_name_37 rfl ?_
          refine AW_bipush (v := 8) dX12_name_38 (by decide) ?_
          refine AW_lshl dX12_name_40 ?_
          refine AW_aload_n dX12_name_41 rfl ?_
          refine AW_getR (ci := 11) (k0 := 7) (C := RX12) (T := TX12) (N := 31) dX12_name_42 rfl (gT_u tU_X12) (by decide) (List.mem_cons_of_mem _ tF_X12_25) h (fun v6 _ h => ?_)
          refine AW_iload_n dX12_name_45 rfl ?_
          refine AW_iald dX12_name_46 h (fun v7 _ h => ?_)
          refine AW_i2l dX12_name_47 ?_
          refine AW_lor dX12_name_48 ?_
          refine AW_lstore_n (ls' := [some (va_rf x0), some (.long ((x1 <<< ((8 : Int32).toInt64 &&& 63)) ||| v7.toInt64)), none, some (.int x3)]) dX12_name_49 (c1_r rfl) (by decide) rfl ?_
          refine AW_iinc (v := 1) (ls' := [some (va_rf x0), some (.long ((x1 <<< ((8 : Int32).toInt64 &&& 63)) ||| v7.toInt64)), none, some (.int (x3 + (1 : Int32)))]) dX12_name_50 rfl (c1_n rfl) (by decide) (by decide) rfl ?_
          refine AW_goto (tgt := 7) dX12_name_53 (by decide) ?_
          exact (ih _ _ _ _ _ h)
def f_X12_name_0 (N : Nat) (A : hP) (x0 : Option Nat) : Option (Int64 × hP) := (oI A x0 11 13).bind fun v8 => f_X12_name_7 N N A x0 (0 : Int64) v8
set_option maxRecDepth 20000 in
set_option maxHeartbeats 4000000 in
theorem t_X12_name_0 {l : Launch} {G : gS} (N : Nat) (A : hP) (x0 : Option Nat) (res : Int64 × hP) (h : f_X12_name_0 N A x0 = some res) : AW l mX12_name (g_rm 0 0 0) G (g_Qf G (gl res) 0 0) A 0 0 0 [some (va_rf x0), none, none, none] [] := by
  unfold f_X12_name_0 at h
  refine AW_lconst (v := 0) dX12_name_0 (by decide) ?_
  refine AW_lstore_n (ls' := [some (va_rf x0), some (.long (0 : Int64)), none, none]) dX12_name_1 (c1_r rfl) (by decide) rfl ?_
  refine AW_aload_n dX12_name_2 rfl ?_
  refine AW_getI (ci := 11) (k0 := 13) (C := RX12) (T := TX12) (N := 31) dX12_name_3 rfl (gT_u tU_X12) (by decide) (List.mem_cons_of_mem _ tF_X12_90) h (fun v8 _ h => ?_)
  refine AW_istore_n (ls' := [some (va_rf x0), some (.long (0 : Int64)), none, some (.int v8)]) dX12_name_6 (c1_n rfl) (by decide) rfl ?_
  exact (t_X12_name_7 N N _ _ _ _ _ h)
def f_X12_name (N : Nat) (A : hP) (x0 : Option Nat) : Option (Int64 × hP) := f_X12_name_0 N A x0
set_option maxRecDepth 20000 in
theorem c_X12_name {l : Launch} (N : Nat) (A : hP) (x0 : Option Nat) (res : Int64 × hP) (h : f_X12_name N A x0 = some res) : Ct l mX12_name 0 0 0 A [va_rf x0] (gl res) := Ct.of (lv := [(0, va_rf x0)]) (ls := [some (va_rf x0), none, none, none]) (by decide) (by simp [lv_args, g_cat_rf, cat_i, cat_l]) rfl (by simp [g_cat_rf, cat_i, cat_l]) (fun G => (t_X12_name_0 N A x0 res h))
abbrev mX12_bad : gM := gMk yX12_bad cX12_bad 2 none
def f_X12_bad_20 (N : Nat) (A : hP) : Option (Unit × hP) := some ((), A)
set_option maxRecDepth 20000 in
set_option maxHeartbeats 4000000 in
theorem t_X12_bad_20 {l : Launch} {G : gS} (N : Nat) (A : hP) (res : Unit × hP) (h : f_X12_bad_20 N A  = some res) : AW l mX12_bad (g_rm 0 0 0) G (g_Qf G (gu res) 0 0) A 0 0 20 [none, none] [] := by
  unfold f_X12_bad_20 at h
  exact AW_vret dX12_bad_20 rfl ⟨Nat.zero_le _, Nat.zero_le _⟩ h
def f_X12_bad_0 (N : Nat) (A : hP) (x0 : Option Nat) (x1 : Int32) : Option (Unit × hP) := (oI A x0 11 15).bind fun v1 => if v1 = (0) then ((oP A x0 11 15 (.int x1)).bind fun A2 => (oI A2 x0 11 13).bind fun v3 => (oP A2 x0 11 16 (.int v3)).bind fun A4 => f_X12_bad_20 N A4) else (f_X12_bad_20 N A)
set_option maxRecDepth 20000 in
set_option maxHeartbeats 4000000 in
theorem t_X12_bad_0 {l : Launch} {G : gS} (N : Nat) (A : hP) (x0 : Option Nat) (x1 : Int32) (res : Unit × hP) (h : f_X12_bad_0 N A x0 x1 = some res) : AW l mX12_bad (g_rm 0 0 0) G (g_Qf G (gu res) 0 0) A 0 0 0 [some (va_rf x0), some (.int x1)] [] := by
  unfold f_X12_bad_0 at h
  refine AW_aload_n dX12_bad_0 rfl ?_
  refine AW_getI (ci := 11) (k0 := 15) (C := RX12) (T := TX12) (N := 31) dX12_bad_1 rfl (gT_u tU_X12) (by decide) (List.mem_cons_of_mem _ tF_X12_105) h (fun v1 _ h => ?_)
  refine AW_if_ne (tgt := 20) dX12_bad_4 (by decide) h (fun _ h => ?_) (fun _ h => ?_)
  · exact AW_fewer (fw_d (fw_d fw_n)) (t_X12_bad_20 N _ _ h)
  · refine AW_aload_n dX12_bad_7 rfl ?_
    refine AW_iload_n dX12_bad_8 rfl ?_
    refine AW_put (ci := 11) (k0 := 15) (C := RX12) (T := TX12) (N := 31) (ty0 := tyX12) dX12_bad_9 rfl (gT_u tU_X12) tyX12_ok nmX12 (by decide) (List.mem_cons_of_mem _ tF_X12_105) (Or.inl rfl) rfl rfl h (fun A2 _ h => ?_)
    refine AW_aload_n dX12_bad_12 rfl ?_
    refine AW_aload_n dX12_bad_13 rfl ?_
    refine AW_getI (ci := 11) (k0 := 13) (C := RX12) (T := TX12) (N := 31) dX12_bad_14 rfl (gT_u tU_X12) (by decide) (List.mem_cons_of_mem _ tF_X12_90) h (fun v3 _ h => ?_)
    refine AW_put (ci := 11) (k0 := 16) (C := RX12) (T := TX12) (N := 31) (ty0 := tyX12) dX12_bad_17 rfl (gT_u tU_X12) tyX12_ok nmX12 (by decide) (List.mem_cons_of_mem _ tF_X12_111) (Or.inl rfl) rfl rfl h (fun A4 _ h => ?_)
    exact AW_fewer (fw_d (fw_d fw_n)) (t_X12_bad_20 N _ _ h)
def f_X12_bad (N : Nat) (A : hP) (x0 : Option Nat) (x1 : Int32) : Option (Unit × hP) := f_X12_bad_0 N A x0 x1
set_option maxRecDepth 20000 in
theorem c_X12_bad {l : Launch} (N : Nat) (A : hP) (x0 : Option Nat) (x1 : Int32) (res : Unit × hP) (h : f_X12_bad N A x0 x1 = some res) : Ct l mX12_bad 0 0 0 A [va_rf x0, .int x1] (gu res) := Ct.of (lv := [(0, va_rf x0), (1, .int x1)]) (ls := [some (va_rf x0), some (.int x1)]) (by decide) (by simp [lv_args, g_cat_rf, cat_i, cat_l]) rfl (by simp [g_cat_rf, cat_i, cat_l]) (fun G => (t_X12_bad_0 N A x0 x1 res h))
abbrev mX12_must : gM := gMk yX12_must cX12_must 2 none
def f_X12_must_20 (N : Nat) (A : hP) : Option (Unit × hP) := some ((), A)
set_option maxRecDepth 20000 in
set_option maxHeartbeats 4000000 in
theorem t_X12_must_20 {l : Launch} {G : gS} (N : Nat) (A : hP) (res : Unit × hP) (h : f_X12_must_20 N A  = some res) : AW l mX12_must (g_rm 2 0 0) G (g_Qf G (gu res) 0 0) A 0 0 20 [none, none] [] := by
  unfold f_X12_must_20 at h
  exact AW_vret dX12_must_20 rfl ⟨Nat.zero_le _, Nat.zero_le _⟩ h
def f_X12_must_9 (N : Nat) (A : hP) (x0 : Option Nat) : Option (Unit × hP) := (oI A x0 11 15).bind fun v1 => if v1 = (0) then ((oCk A x0 11).bind fun _ => (f_X12_nextToken N A x0).bind fun q2 => f_X12_must_20 N q2.2) else (f_X12_must_20 N A)
set_option maxRecDepth 20000 in
set_option maxHeartbeats 4000000 in
theorem t_X12_must_9 {l : Launch} {G : gS} (N : Nat) (A : hP) (x0 : Option Nat) (res : Unit × hP) (h : f_X12_must_9 N A x0 = some res) : AW l mX12_must (g_rm 2 0 0) G (g_Qf G (gu res) 0 0) A 0 0 9 [some (va_rf x0), none] [] := by
  unfold f_X12_must_9 at h
  refine AW_aload_n dX12_must_9 rfl ?_
  refine AW_getI (ci := 11) (k0 := 15) (C := RX12) (T := TX12) (N := 31) dX12_must_10 rfl (gT_u tU_X12) (by decide) (List.mem_cons_of_mem _ tF_X12_105) h (fun v1 _ h => ?_)
  refine AW_if_ne (tgt := 20) dX12_must_13 (by decide) h (fun _ h => ?_) (fun _ h => ?_)
  · exact AW_fewer (fw_d (fw_k fw_n)) (t_X12_must_20 N _ _ h)
  · refine AW_aload_n dX12_must_16 rfl ?_
    refine AW_callVu (y := yX12_nextToken) (cc := cX12_nextToken) (n := 2) (d := 1) (mc := 0) (ms := 0) (np := 0) (ret := none) (As := []) (st := []) (ci := 11) dX12_must_17 gT_s rfl tM_X12_108 tI_X12_nextToken selp_X12_nextToken tIni_X12 tY_X12_nextToken (by decide +kernel) ⟨by decide, by decide⟩ ⟨by decide, by decide⟩ (Nat.le_of_ble_eq_true rfl) rfl h (fun q hq => c_X12_nextToken N _ _ q hq) (fun q2 _ h => ?_)
    exact AW_fewer (fw_d (fw_k fw_n)) (t_X12_must_20 N _ _ h)
def f_X12_must_0 (N : Nat) (A : hP) (x0 : Option Nat) (x1 : Int32) : Option (Unit × hP) := if x1 = (0) then ((oCk A x0 11).bind fun _ => (f_X12_bad N A x0 (1 : Int32)).bind fun q3 => f_X12_must_9 N q3.2 x0) else (f_X12_must_9 N A x0)
set_option maxRecDepth 20000 in
set_option maxHeartbeats 4000000 in
theorem t_X12_must_0 {l : Launch} {G : gS} (N : Nat) (A : hP) (x0 : Option Nat) (x1 : Int32) (res : Unit × hP) (h : f_X12_must_0 N A x0 x1 = some res) : AW l mX12_must (g_rm 2 0 0) G (g_Qf G (gu res) 0 0) A 0 0 0 [some (va_rf x0), some (.int x1)] [] := by
  unfold f_X12_must_0 at h
  refine AW_iload_n dX12_must_0 rfl ?_
  refine AW_if_ne (tgt := 9) dX12_must_1 (by decide) h (fun _ h => ?_) (fun _ h => ?_)
  · exact AW_fewer (fw_k (fw_d fw_n)) (t_X12_must_9 N _ _ _ h)
  · refine AW_aload_n dX12_must_4 rfl ?_
    refine AW_iconst (v := 1) dX12_must_5 (by decide) ?_
    refine AW_callVu (y := yX12_bad) (cc := cX12_bad) (n := 2) (d := 0) (mc := 0) (ms := 0) (np := 1) (ret := none) (As := [.int (1 : Int32)]) (st := []) (ci := 11) dX12_must_6 gT_s rfl tM_X12_114 tI_X12_bad selp_X12_bad tIni_X12 tY_X12_bad (by decide +kernel) ⟨by decide, by decide⟩ ⟨by decide, by decide⟩ (Nat.le_of_ble_eq_true rfl) rfl h (fun q hq => c_X12_bad N _ _ _ q hq) (fun q3 _ h => ?_)
    exact AW_fewer (fw_k (fw_d fw_n)) (t_X12_must_9 N _ _ _ h)
def f_X12_must (N : Nat) (A : hP) (x0 : Option Nat) (x1 : Int32) : Option (Unit × hP) := f_X12_must_0 N A x0 x1
set_option maxRecDepth 20000 in
theorem c_X12_must {l : Launch} (N : Nat) (A : hP) (x0 : Option Nat) (x1 : Int32) (res : Unit × hP) (h : f_X12_must N A x0 x1 = some res) : Ct l mX12_must 2 0 0 A [va_rf x0, .int x1] (gu res) := Ct.of (lv := [(0, va_rf x0), (1, .int x1)]) (ls := [some (va_rf x0), some (.int x1)]) (by decide) (by simp [lv_args, g_cat_rf, cat_i, cat_l]) rfl (by simp [g_cat_rf, cat_i, cat_l]) (fun G => (t_X12_must_0 N A x0 x1 res h))
abbrev mX12_figures : gM := gMk yX12_figures cX12_figures 3 (some .int)
def f_X12_figures_44 (N : Nat) (A : hP) (x1 : Int32) : Option (Int32 × hP) := some (x1, A)
set_option maxRecDepth 20000 in
set_option maxHeartbeats 4000000 in
theorem t_X12_figures_44 {l : Launch} {G : gS} (N : Nat) (A : hP) (x1 : Int32) (res : Int32 × hP) (h : f_X12_figures_44 N A x1 = some res) : AW l mX12_figures (g_rm 0 0 0) G (g_Qf G (gi res) 0 0) A 0 0 44 [none, some (.int x1), none] [] := by
  unfold f_X12_figures_44 at h
  refine AW_iload_n dX12_figures_44 rfl ?_
  exact AW_iret dX12_figures_45 rfl ⟨Nat.zero_le _, Nat.zero_le _⟩ h
def f_X12_figures_7 (N : Nat) : Nat → hP → Option Nat → Int32 → Int32 → Option (Int32 × hP)
  | 0, _, _, _, _ => none
  | n + 1, A, x0, x1, x2 => (oI A x0 11 14).bind fun v1 => if v1 ≤ x2 then (f_X12_figures_44 N A x1) else ((oI A x0 11 12).bind fun v2 => if v2 = (3 : Int32) then ((oR A x0 11 7).bind fun v3 => (oA A v3 0 x2).bind fun v4 => f_X12_figures_7 N n A x0 ((((10 : Int32) * x1) + v4) - (48 : Int32)) (x2 + (1 : Int32))) else (f_X12_figures_44 N A x1))
set_option maxRecDepth 20000 in
set_option maxHeartbeats 4000000 in
theorem t_X12_figures_7 {l : Launch} {G : gS} (N : Nat) : ∀ (n : Nat) (A : hP) (x0 : Option Nat) (x1 : Int32) (x2 : Int32) (res : Int32 × hP), f_X12_figures_7 N n A x0 x1 x2 = some res → AW l mX12_figures (g_rm 0 0 0) G (g_Qf G (gi res) 0 0) A 0 0 7 [some (va_rf x0), some (.int x1), some (.int x2)] [] := by
  intro n
  induction n with
  | zero => intro A x0 x1 x2 res h; cases h
  | succ n ih =>
    intro A x0 x1 x2 res h
    rw [f_X12_figures_7] at h
    refine AW_iload_n dX12_figures_7 rfl ?_
    refine AW_aload_n dX12_figures_8 rfl ?_
    refine AW_getI (ci := 11) (k0 := 14) (C := RX12) (T := TX12) (N := 31) dX12_figures_9 rfl (gT_u tU_X12) (by decide) (List.mem_cons_of_mem _ tF_X12_102) h (fun v1 _ h => ?_)
    refine AW_icmp_ge (tgt := 44) dX12_figures_12 (by decide) h (fun _ h => ?_) (fun _ h => ?_)
    · exact AW_fewer (fw_d (fw_k (fw_d fw_n))) (t_X12_figures_44 N _ _ _ h)
    · refine AW_aload_n dX12_figures_15 rfl ?_
      refine AW_getI (ci := 11) (k0 := 12) (C := RX12) (T := TX12) (N := 31) dX12_figures_16 rfl (gT_u tU_X12) (by decide) (List.mem_cons_of_mem _ tF_X12_93) h (fun v2 _ h => ?_)
      refine AW_iconst (v := 3) dX12_figures_19 (by decide) ?_
      refine AW_icmp_ne (tgt := 44) dX12_figures_20 (by decide) h (fun _ h => ?_) (fun _ h => ?_)
      · exact AW_fewer (fw_d (fw_k (fw_d fw_n))) (t_X12_figures_44 N _ _ _ h)
      · refine AW_bipush (v := 10) dX12_figures_23 (by decide) ?_
        refine AW_iload_n dX12_figures_25 rfl ?_
        refine AW_imul dX12_figures_26 ?_
        refine AW_aload_n dX12_figures_27 rfl ?_
        refine AW_getR (ci := 11) (k0 := 7) (C := RX12) (T := TX12) (N := 31) dX12_figures_28 rfl (gT_u tU_X12) (by decide) (List.mem_cons_of_mem _ tF_X12_25) h (fun v3 _ h => ?_)
        refine AW_iload_n dX12_figures_31 rfl ?_
        refine AW_iald dX12_figures_32 h (fun v4 _ h => ?_)
        refine AW_iadd dX12_figures_33 ?_
        refine AW_bipush (v := 48) dX12_figures_34 (by decide) ?_
        refine AW_isub dX12_figures_36 ?_
        refine AW_istore_n (ls' := [some (va_rf x0), some (.int ((((10 : Int32) * x1) + v4) - (48 : Int32))), some (.int x2)]) dX12_figures_37 (c1_r rfl) (by decide) rfl ?_
        refine AW_iinc (v := 1) (ls' := [some (va_rf x0), some (.int ((((10 : Int32) * x1) + v4) - (48 : Int32))), some (.int (x2 + (1 : Int32)))]) dX12_figures_38 rfl (c1_i rfl) (by decide) (by decide) rfl ?_
        refine AW_goto (tgt := 7) dX12_figures_41 (by decide) ?_
        exact (ih _ _ _ _ _ h)
def f_X12_figures_0 (N : Nat) (A : hP) (x0 : Option Nat) : Option (Int32 × hP) := (oI A x0 11 13).bind fun v5 => f_X12_figures_7 N N A x0 (0 : Int32) v5
set_option maxRecDepth 20000 in
set_option maxHeartbeats 4000000 in
theorem t_X12_figures_0 {l : Launch} {G : gS} (N : Nat) (A : hP) (x0 : Option Nat) (res : Int32 × hP) (h : f_X12_figures_0 N A x0 = some res) : AW l mX12_figures (g_rm 0 0 0) G (g_Qf G (gi res) 0 0) A 0 0 0 [some (va_rf x0), none, none] [] := by
  unfold f_X12_figures_0 at h
  refine AW_iconst (v := 0) dX12_figures_0 (by decide) ?_
  refine AW_istore_n (ls' := [some (va_rf x0), some (.int (0 : Int32)), none]) dX12_figures_1 (c1_r rfl) (by decide) rfl ?_
  refine AW_aload_n dX12_figures_2 rfl ?_
  refine AW_getI (ci := 11) (k0 := 13) (C := RX12) (T := TX12) (N := 31) dX12_figures_3 rfl (gT_u tU_X12) (by decide) (List.mem_cons_of_mem _ tF_X12_90) h (fun v5 _ h => ?_)
  refine AW_istore_n (ls' := [some (va_rf x0), some (.int (0 : Int32)), some (.int v5)]) dX12_figures_6 (c1_i rfl) (by decide) rfl ?_
  exact (t_X12_figures_7 N N _ _ _ _ _ h)
def f_X12_figures (N : Nat) (A : hP) (x0 : Option Nat) : Option (Int32 × hP) := f_X12_figures_0 N A x0
set_option maxRecDepth 20000 in
theorem c_X12_figures {l : Launch} (N : Nat) (A : hP) (x0 : Option Nat) (res : Int32 × hP) (h : f_X12_figures N A x0 = some res) : Ct l mX12_figures 0 0 0 A [va_rf x0] (gi res) := Ct.of (lv := [(0, va_rf x0)]) (ls := [some (va_rf x0), none, none]) (by decide) (by simp [lv_args, g_cat_rf, cat_i, cat_l]) rfl (by simp [g_cat_rf, cat_i, cat_l]) (fun G => (t_X12_figures_0 N A x0 res h))
abbrev mX12_number : gM := gMk yX12_number cX12_number 4 (some .int)
def f_X12_number_53 (N : Nat) (A : hP) (x3 : Int32) (s0 : Option Nat) (s1 : Int32) : Option (Int32 × hP) := (oCk A s0 11).bind fun _ => (f_X12_must N A s0 s1).bind fun q1 => some (x3, q1.2)
set_option maxRecDepth 20000 in
set_option maxHeartbeats 4000000 in
theorem t_X12_number_53 {l : Launch} {G : gS} (N : Nat) (A : hP) (x3 : Int32) (s0 : Option Nat) (s1 : Int32) (res : Int32 × hP) (h : f_X12_number_53 N A x3 s0 s1 = some res) : AW l mX12_number (g_rm 3 0 0) G (g_Qf G (gi res) 0 0) A 0 0 53 [none, none, none, some (.int x3)] [.int s1, va_rf s0] := by
  unfold f_X12_number_53 at h
  refine AW_callVu (y := yX12_must) (cc := cX12_must) (n := 2) (d := 2) (mc := 0) (ms := 0) (np := 1) (ret := none) (As := [.int s1]) (st := []) (ci := 11) dX12_number_53 gT_s rfl tM_X12_122 tI_X12_must selp_X12_must tIni_X12 tY_X12_must (by decide +kernel) ⟨by decide, by decide⟩ ⟨by decide, by decide⟩ (Nat.le_of_ble_eq_true rfl) rfl h (fun q hq => c_X12_must N _ _ _ q hq) (fun q1 _ h => ?_)
  refine AW_iload_n dX12_number_56 rfl ?_
  exact AW_iret dX12_number_57 rfl ⟨Nat.zero_le _, Nat.zero_le _⟩ h
def f_X12_number_39 (N : Nat) (A : hP) (x0 : Option Nat) (x3 : Int32) : Option (Int32 × hP) := (oI A x0 11 12).bind fun v2 => if v2 = (3 : Int32) then (f_X12_number_53 N A x3 x0 (1 : Int32)) else (f_X12_number_53 N A x3 x0 (0 : Int32))
set_option maxRecDepth 20000 in
set_option maxHeartbeats 4000000 in
theorem t_X12_number_39 {l : Launch} {G : gS} (N : Nat) (A : hP) (x0 : Option Nat) (x3 : Int32) (res : Int32 × hP) (h : f_X12_number_39 N A x0 x3 = some res) : AW l mX12_number (g_rm 3 0 0) G (g_Qf G (gi res) 0 0) A 0 0 39 [some (va_rf x0), none, none, some (.int x3)] [] := by
  unfold f_X12_number_39 at h
  refine AW_aload_n dX12_number_39 rfl ?_
  refine AW_aload_n dX12_number_40 rfl ?_
  refine AW_getI (ci := 11) (k0 := 12) (C := RX12) (T := TX12) (N := 31) dX12_number_41 rfl (gT_u tU_X12) (by decide) (List.mem_cons_of_mem _ tF_X12_93) h (fun v2 _ h => ?_)
  refine AW_iconst (v := 3) dX12_number_44 (by decide) ?_
  refine AW_icmp_ne (tgt := 52) dX12_number_45 (by decide) h (fun _ h => ?_) (fun _ h => ?_)
  · refine AW_iconst (v := 0) dX12_number_52 (by decide) ?_
    exact AW_fewer (fw_d (fw_k (fw_k (fw_k fw_n)))) (t_X12_number_53 N _ _ _ _ _ h)
  · refine AW_iconst (v := 1) dX12_number_48 (by decide) ?_
    refine AW_goto (tgt := 53) dX12_number_49 (by decide) ?_
    exact AW_fewer (fw_d (fw_k (fw_k (fw_k fw_n)))) (t_X12_number_53 N _ _ _ _ _ h)
def f_X12_number_0 (N : Nat) (A : hP) (x0 : Option Nat) (x1 : Int32) (x2 : Int32) : Option (Int32 × hP) := (oI A x0 11 15).bind fun v3 => if v3 ≤ (0) then ((oCk A x0 11).bind fun _ => (f_X12_figures N A x0).bind fun q4 => (oI q4.2 x0 11 12).bind fun v5 => if v5 = (3 : Int32) then ((f_X12_in N q4.2 q4.1.toInt64 x1.toInt64 x2.toInt64).bind fun q6 => if q6.1 = (0) then ((oCk q6.2 x0 11).bind fun _ => (f_X12_bad N q6.2 x0 (2 : Int32)).bind fun q7 => f_X12_number_39 N q7.2 x0 q4.1) else (f_X12_number_39 N q6.2 x0 q4.1)) else (f_X12_number_39 N q4.2 x0 q4.1)) else (some ((0 : Int32), A))
set_option maxRecDepth 20000 in
set_option maxHeartbeats 4000000 in
theorem t_X12_number_0 {l : Launch} {G : gS} (N : Nat) (A : hP) (x0 : Option Nat) (x1 : Int32) (x2 : Int32) (res : Int32 × hP) (h : f_X12_number_0 N A x0 x1 x2 = some res) : AW l mX12_number (g_rm 3 0 0) G (g_Qf G (gi res) 0 0) A 0 0 0 [some (va_rf x0), some (.int x1), some (.int x2), none] [] := by
  unfold f_X12_number_0 at h
  refine AW_aload_n dX12_number_0 rfl ?_
  refine AW_getI (ci := 11) (k0 := 15) (C := RX12) (T := TX12) (N := 31) dX12_number_1 rfl (gT_u tU_X12) (by decide) (List.mem_cons_of_mem _ tF_X12_105) h (fun v3 _ h => ?_)
  refine AW_if_le (tgt := 9) dX12_number_4 (by decide) h (fun _ h => ?_) (fun _ h => ?_)
  · refine AW_aload_n dX12_number_9 rfl ?_
    refine AW_callVi (y := yX12_figures) (cc := cX12_figures) (n := 3) (d := 0) (mc := 0) (ms := 0) (np := 0) (ret := (some .int)) (As := []) (st := []) (ci := 11) dX12_number_10 gT_s rfl tM_X12_118 tI_X12_figures selp_X12_figures tIni_X12 tY_X12_figures (by decide +kernel) ⟨by decide, by decide⟩ ⟨by decide, by decide⟩ (Nat.le_of_ble_eq_true rfl) rfl h (fun q hq => c_X12_figures N _ _ q hq) (fun q4 _ h => ?_)
    refine AW_istore_n (ls' := [some (va_rf x0), some (.int x1), some (.int x2), some (.int q4.1)]) dX12_number_13 (c1_i rfl) (by decide) rfl ?_
    refine AW_aload_n dX12_number_14 rfl ?_
    refine AW_getI (ci := 11) (k0 := 12) (C := RX12) (T := TX12) (N := 31) dX12_number_15 rfl (gT_u tU_X12) (by decide) (List.mem_cons_of_mem _ tF_X12_93) h (fun v5 _ h => ?_)
    refine AW_iconst (v := 3) dX12_number_18 (by decide) ?_
    refine AW_icmp_ne (tgt := 39) dX12_number_19 (by decide) h (fun _ h => ?_) (fun _ h => ?_)
    · exact AW_fewer (fw_k (fw_d (fw_d (fw_k fw_n)))) (t_X12_number_39 N _ _ _ _ h)
    · refine AW_iload_n dX12_number_22 rfl ?_
      refine AW_i2l dX12_number_23 ?_
      refine AW_iload_n dX12_number_24 rfl ?_
      refine AW_i2l dX12_number_25 ?_
      refine AW_iload_n dX12_number_26 rfl ?_
      refine AW_i2l dX12_number_27 ?_
      refine AW_callSi (y := yX12_in) (cc := cX12_in) (n := 6) (d := 0) (mc := 0) (ms := 0) (np := 3) (ret := (some .boolean)) (As := [.long q4.1.toInt64, .long x1.toInt64, .long x2.toInt64]) (st := []) dX12_number_28 gT_s tM_X12_57 tS_X12_in tIni_X12 tY_X12_in (by decide +kernel) ⟨by decide, by decide⟩ ⟨by decide, by decide⟩ (Nat.le_of_ble_eq_true rfl) rfl h (fun q hq => c_X12_in N _ _ _ _ q hq) (fun q6 _ h => ?_)
      refine AW_if_ne (tgt := 39) dX12_number_31 (by decide) h (fun _ h => ?_) (fun _ h => ?_)
      · exact AW_fewer (fw_k (fw_d (fw_d (fw_k fw_n)))) (t_X12_number_39 N _ _ _ _ h)
      · refine AW_aload_n dX12_number_34 rfl ?_
        refine AW_iconst (v := 2) dX12_number_35 (by decide) ?_
        refine AW_callVu (y := yX12_bad) (cc := cX12_bad) (n := 2) (d := 0) (mc := 0) (ms := 0) (np := 1) (ret := none) (As := [.int (2 : Int32)]) (st := []) (ci := 11) dX12_number_36 gT_s rfl tM_X12_114 tI_X12_bad selp_X12_bad tIni_X12 tY_X12_bad (by decide +kernel) ⟨by decide, by decide⟩ ⟨by decide, by decide⟩ (Nat.le_of_ble_eq_true rfl) rfl h (fun q hq => c_X12_bad N _ _ _ q hq) (fun q7 _ h => ?_)
        exact AW_fewer (fw_k (fw_d (fw_d (fw_k fw_n)))) (t_X12_number_39 N _ _ _ _ h)
  · refine AW_iconst (v := 0) dX12_number_7 (by decide) ?_
    exact AW_iret dX12_number_8 rfl ⟨Nat.zero_le _, Nat.zero_le _⟩ h
def f_X12_number (N : Nat) (A : hP) (x0 : Option Nat) (x1 : Int32) (x2 : Int32) : Option (Int32 × hP) := f_X12_number_0 N A x0 x1 x2
set_option maxRecDepth 20000 in
theorem c_X12_number {l : Launch} (N : Nat) (A : hP) (x0 : Option Nat) (x1 : Int32) (x2 : Int32) (res : Int32 × hP) (h : f_X12_number N A x0 x1 x2 = some res) : Ct l mX12_number 3 0 0 A [va_rf x0, .int x1, .int x2] (gi res) := Ct.of (lv := [(0, va_rf x0), (1, .int x1), (2, .int x2)]) (ls := [some (va_rf x0), some (.int x1), some (.int x2), none]) (by decide) (by simp [lv_args, g_cat_rf, cat_i, cat_l]) rfl (by simp [g_cat_rf, cat_i, cat_l]) (fun G => (t_X12_number_0 N A x0 x1 x2 res h))
abbrev mX12_mustEnd : gM := gMk yX12_mustEnd cX12_mustEnd 1 none
def f_X12_mustEnd_24 (N : Nat) (A : hP) : Option (Unit × hP) := some ((), A)
set_option maxRecDepth 20000 in
set_option maxHeartbeats 4000000 in
theorem t_X12_mustEnd_24 {l : Launch} {G : gS} (N : Nat) (A : hP) (res : Unit × hP) (h : f_X12_mustEnd_24 N A  = some res) : AW l mX12_mustEnd (g_rm 3 0 0) G (g_Qf G (gu res) 0 0) A 0 0 24 [none] [] := by
  unfold f_X12_mustEnd_24 at h
  exact AW_vret dX12_mustEnd_24 rfl ⟨Nat.zero_le _, Nat.zero_le _⟩ h
def f_X12_mustEnd_21 (N : Nat) (A : hP) (s0 : Option Nat) (s1 : Int32) : Option (Unit × hP) := (oCk A s0 11).bind fun _ => (f_X12_must N A s0 s1).bind fun q1 => f_X12_mustEnd_24 N q1.2
set_option maxRecDepth 20000 in
set_option maxHeartbeats 4000000 in
theorem t_X12_mustEnd_21 {l : Launch} {G : gS} (N : Nat) (A : hP) (s0 : Option Nat) (s1 : Int32) (res : Unit × hP) (h : f_X12_mustEnd_21 N A s0 s1 = some res) : AW l mX12_mustEnd (g_rm 3 0 0) G (g_Qf G (gu res) 0 0) A 0 0 21 [none] [.int s1, va_rf s0] := by
  unfold f_X12_mustEnd_21 at h
  refine AW_callVu (y := yX12_must) (cc := cX12_must) (n := 2) (d := 2) (mc := 0) (ms := 0) (np := 1) (ret := none) (As := [.int s1]) (st := []) (ci := 11) dX12_mustEnd_21 gT_s rfl tM_X12_122 tI_X12_must selp_X12_must tIni_X12 tY_X12_must (by decide +kernel) ⟨by decide, by decide⟩ ⟨by decide, by decide⟩ (Nat.le_of_ble_eq_true rfl) rfl h (fun q hq => c_X12_must N _ _ _ q hq) (fun q1 _ h => ?_)
  exact (t_X12_mustEnd_24 N _ _ h)
def f_X12_mustEnd_0 (N : Nat) (A : hP) (x0 : Option Nat) : Option (Unit × hP) := (oI A x0 11 15).bind fun v2 => if v2 = (0) then ((oI A x0 11 12).bind fun v3 => if v3 = (4 : Int32) then (f_X12_mustEnd_21 N A x0 (1 : Int32)) else (f_X12_mustEnd_21 N A x0 (0 : Int32))) else (f_X12_mustEnd_24 N A)
set_option maxRecDepth 20000 in
set_option maxHeartbeats 4000000 in
theorem t_X12_mustEnd_0 {l : Launch} {G : gS} (N : Nat) (A : hP) (x0 : Option Nat) (res : Unit × hP) (h : f_X12_mustEnd_0 N A x0 = some res) : AW l mX12_mustEnd (g_rm 3 0 0) G (g_Qf G (gu res) 0 0) A 0 0 0 [some (va_rf x0)] [] := by
  unfold f_X12_mustEnd_0 at h
  refine AW_aload_n dX12_mustEnd_0 rfl ?_
  refine AW_getI (ci := 11) (k0 := 15) (C := RX12) (T := TX12) (N := 31) dX12_mustEnd_1 rfl (gT_u tU_X12) (by decide) (List.mem_cons_of_mem _ tF_X12_105) h (fun v2 _ h => ?_)
  refine AW_if_ne (tgt := 24) dX12_mustEnd_4 (by decide) h (fun _ h => ?_) (fun _ h => ?_)
  · exact AW_fewer (fw_d fw_n) (t_X12_mustEnd_24 N _ _ h)
  · refine AW_aload_n dX12_mustEnd_7 rfl ?_
    refine AW_aload_n dX12_mustEnd_8 rfl ?_
    refine AW_getI (ci := 11) (k0 := 12) (C := RX12) (T := TX12) (N := 31) dX12_mustEnd_9 rfl (gT_u tU_X12) (by decide) (List.mem_cons_of_mem _ tF_X12_93) h (fun v3 _ h => ?_)
    refine AW_iconst (v := 4) dX12_mustEnd_12 (by decide) ?_
    refine AW_icmp_ne (tgt := 20) dX12_mustEnd_13 (by decide) h (fun _ h => ?_) (fun _ h => ?_)
    · refine AW_iconst (v := 0) dX12_mustEnd_20 (by decide) ?_
      exact AW_fewer (fw_d fw_n) (t_X12_mustEnd_21 N _ _ _ _ h)
    · refine AW_iconst (v := 1) dX12_mustEnd_16 (by decide) ?_
      refine AW_goto (tgt := 21) dX12_mustEnd_17 (by decide) ?_
      exact AW_fewer (fw_d fw_n) (t_X12_mustEnd_21 N _ _ _ _ h)
def f_X12_mustEnd (N : Nat) (A : hP) (x0 : Option Nat) : Option (Unit × hP) := f_X12_mustEnd_0 N A x0
set_option maxRecDepth 20000 in
theorem c_X12_mustEnd {l : Launch} (N : Nat) (A : hP) (x0 : Option Nat) (res : Unit × hP) (h : f_X12_mustEnd N A x0 = some res) : Ct l mX12_mustEnd 3 0 0 A [va_rf x0] (gu res) := Ct.of (lv := [(0, va_rf x0)]) (ls := [some (va_rf x0)]) (by decide) (by simp [lv_args, g_cat_rf, cat_i, cat_l]) rfl (by simp [g_cat_rf, cat_i, cat_l]) (fun G => (t_X12_mustEnd_0 N A x0 res h))
abbrev mX12_begins : gM := gMk yX12_begins cX12_begins 3 none
def f_X12_begins_15 (N : Nat) (A : hP) (x0 : Option Nat) : Option (Unit × hP) := (oCk A x0 11).bind fun _ => (f_X12_must N A x0 (1 : Int32)).bind fun q1 => some ((), q1.2)
set_option maxRecDepth 20000 in
set_option maxHeartbeats 4000000 in
theorem t_X12_begins_15 {l : Launch} {G : gS} (N : Nat) (A : hP) (x0 : Option Nat) (res : Unit × hP) (h : f_X12_begins_15 N A x0 = some res) : AW l mX12_begins (g_rm 3 0 0) G (g_Qf G (gu res) 0 0) A 0 0 15 [some (va_rf x0), none, none] [] := by
  unfold f_X12_begins_15 at h
  refine AW_aload_n dX12_begins_15 rfl ?_
  refine AW_iconst (v := 1) dX12_begins_16 (by decide) ?_
  refine AW_callVu (y := yX12_must) (cc := cX12_must) (n := 2) (d := 2) (mc := 0) (ms := 0) (np := 1) (ret := none) (As := [.int (1 : Int32)]) (st := []) (ci := 11) dX12_begins_17 gT_s rfl tM_X12_122 tI_X12_must selp_X12_must tIni_X12 tY_X12_must (by decide +kernel) ⟨by decide, by decide⟩ ⟨by decide, by decide⟩ (Nat.le_of_ble_eq_true rfl) rfl h (fun q hq => c_X12_must N _ _ _ q hq) (fun q1 _ h => ?_)
  exact AW_vret dX12_begins_20 rfl ⟨Nat.zero_le _, Nat.zero_le _⟩ h
def f_X12_begins_0 (N : Nat) (A : hP) (x0 : Option Nat) (x1 : Int32) (x2 : Int32) : Option (Unit × hP) := (oR A x0 11 6).bind fun v2 => (oA A v2 0 x1).bind fun v3 => if v3 = x2 then ((oCk A x0 11).bind fun _ => (f_X12_bad N A x0 (3 : Int32)).bind fun q4 => f_X12_begins_15 N q4.2 x0) else (f_X12_begins_15 N A x0)
set_option maxRecDepth 20000 in
set_option maxHeartbeats 4000000 in
theorem t_X12_begins_0 {l : Launch} {G : gS} (N : Nat) (A : hP) (x0 : Option Nat) (x1 : Int32) (x2 : Int32) (res : Unit × hP) (h : f_X12_begins_0 N A x0 x1 x2 = some res) : AW l mX12_begins (g_rm 3 0 0) G (g_Qf G (gu res) 0 0) A 0 0 0 [some (va_rf x0), some (.int x1), some (.int x2)] [] := by
  unfold f_X12_begins_0 at h
  refine AW_aload_n dX12_begins_0 rfl ?_
  refine AW_getR (ci := 11) (k0 := 6) (C := RX12) (T := TX12) (N := 31) dX12_begins_1 rfl (gT_u tU_X12) (by decide) (List.mem_cons_of_mem _ tF_X12_22) h (fun v2 _ h => ?_)
  refine AW_iload_n dX12_begins_4 rfl ?_
  refine AW_iald dX12_begins_5 h (fun v3 _ h => ?_)
  refine AW_iload_n dX12_begins_6 rfl ?_
  refine AW_icmp_ne (tgt := 15) dX12_begins_7 (by decide) h (fun _ h => ?_) (fun _ h => ?_)
  · exact AW_fewer (fw_k (fw_d (fw_d fw_n))) (t_X12_begins_15 N _ _ _ h)
  · refine AW_aload_n dX12_begins_10 rfl ?_
    refine AW_iconst (v := 3) dX12_begins_11 (by decide) ?_
    refine AW_callVu (y := yX12_bad) (cc := cX12_bad) (n := 2) (d := 0) (mc := 0) (ms := 0) (np := 1) (ret := none) (As := [.int (3 : Int32)]) (st := []) (ci := 11) dX12_begins_12 gT_s rfl tM_X12_114 tI_X12_bad selp_X12_bad tIni_X12 tY_X12_bad (by decide +kernel) ⟨by decide, by decide⟩ ⟨by decide, by decide⟩ (Nat.le_of_ble_eq_true rfl) rfl h (fun q hq => c_X12_bad N _ _ _ q hq) (fun q4 _ h => ?_)
    exact AW_fewer (fw_k (fw_d (fw_d fw_n))) (t_X12_begins_15 N _ _ _ h)
def f_X12_begins (N : Nat) (A : hP) (x0 : Option Nat) (x1 : Int32) (x2 : Int32) : Option (Unit × hP) := f_X12_begins_0 N A x0 x1 x2
set_option maxRecDepth 20000 in
theorem c_X12_begins {l : Launch} (N : Nat) (A : hP) (x0 : Option Nat) (x1 : Int32) (x2 : Int32) (res : Unit × hP) (h : f_X12_begins N A x0 x1 x2 = some res) : Ct l mX12_begins 3 0 0 A [va_rf x0, .int x1, .int x2] (gu res) := Ct.of (lv := [(0, va_rf x0), (1, .int x1), (2, .int x2)]) (ls := [some (va_rf x0), some (.int x1), some (.int x2)]) (by decide) (by simp [lv_args, g_cat_rf, cat_i, cat_l]) rfl (by simp [g_cat_rf, cat_i, cat_l]) (fun G => (t_X12_begins_0 N A x0 x1 x2 res h))
abbrev mX12_kindBy : gM := gMk yX12_kindBy cX12_kindBy 2 (some .int)
def f_X12_kindBy_62 (N : Nat) (A : hP) (s0 : Int32) : Option (Int32 × hP) := some (s0, A)
set_option maxRecDepth 20000 in
set_option maxHeartbeats 4000000 in
theorem t_X12_kindBy_62 {l : Launch} {G : gS} (N : Nat) (A : hP) (s0 : Int32) (res : Int32 × hP) (h : f_X12_kindBy_62 N A s0 = some res) : AW l mX12_kindBy (g_rm 0 0 0) G (g_Qf G (gi res) 0 0) A 0 0 62 [none, none] [.int s0] := by
  unfold f_X12_kindBy_62 at h
  exact AW_iret dX12_kindBy_62 rfl ⟨Nat.zero_le _, Nat.zero_le _⟩ h
def f_X12_kindBy_0 (N : Nat) (A : hP) (x0 : Int64) : Option (Int32 × hP) := if (lg_cmp x0 (1935764596 : Int64)) = (0) then (f_X12_kindBy_62 N A (1 : Int32)) else (if (lg_cmp x0 (1718186856 : Int64)) = (0) then (f_X12_kindBy_62 N A (2 : Int32)) else (if (lg_cmp x0 (495874698853 : Int64)) = (0) then (f_X12_kindBy_62 N A (4 : Int32)) else (if (lg_cmp x0 (2003791724 : Int64)) = (0) then (f_X12_kindBy_62 N A (3 : Int32)) else (if (lg_cmp x0 (512852323429 : Int64)) = (0) then (f_X12_kindBy_62 N A (5 : Int32)) else (f_X12_kindBy_62 N A (-1000000 : Int32))))))
set_option maxRecDepth 20000 in
set_option maxHeartbeats 4000000 in
theorem t_X12_kindBy_0 {l : Launch} {G : gS} (N : Nat) (A : hP) (x0 : Int64) (res : Int32 × hP) (h : f_X12_kindBy_0 N A x0 = some res) : AW l mX12_kindBy (g_rm 0 0 0) G (g_Qf G (gi res) 0 0) A 0 0 0 [some (.long x0), none] [] := by
  unfold f_X12_kindBy_0 at h
  refine AW_lload_n dX12_kindBy_0 rfl ?_
  refine AW_ldc2 (v := 1935764596) dX12_kindBy_1 (List.mem_cons_of_mem _ tL_X12_126) ?_
  refine AW_lcmp dX12_kindBy_4 ?_
  refine AW_if_ne (tgt := 12) dX12_kindBy_5 (by decide) h (fun _ h => ?_) (fun _ h => ?_)
  · refine AW_lload_n dX12_kindBy_12 rfl ?_
    refine AW_ldc2 (v := 1718186856) dX12_kindBy_13 (List.mem_cons_of_mem _ tL_X12_128) ?_
    refine AW_lcmp dX12_kindBy_16 ?_
    refine AW_if_ne (tgt := 24) dX12_kindBy_17 (by decide) h (fun _ h => ?_) (fun _ h => ?_)
    · refine AW_lload_n dX12_kindBy_24 rfl ?_
      refine AW_ldc2 (v := 495874698853) dX12_kindBy_25 (List.mem_cons_of_mem _ tL_X12_130) ?_
      refine AW_lcmp dX12_kindBy_28 ?_
      refine AW_if_ne (tgt := 36) dX12_kindBy_29 (by decide) h (fun _ h => ?_) (fun _ h => ?_)
      · refine AW_lload_n dX12_kindBy_36 rfl ?_
        refine AW_ldc2 (v := 2003791724) dX12_kindBy_37 (List.mem_cons_of_mem _ tL_X12_132) ?_
        refine AW_lcmp dX12_kindBy_40 ?_
        refine AW_if_ne (tgt := 48) dX12_kindBy_41 (by decide) h (fun _ h => ?_) (fun _ h => ?_)
        · refine AW_lload_n dX12_kindBy_48 rfl ?_
          refine AW_ldc2 (v := 512852323429) dX12_kindBy_49 (List.mem_cons_of_mem _ tL_X12_134) ?_
          refine AW_lcmp dX12_kindBy_52 ?_
          refine AW_if_ne (tgt := 60) dX12_kindBy_53 (by decide) h (fun _ h => ?_) (fun _ h => ?_)
          · refine AW_ldc (v := -1000000) dX12_kindBy_60 (List.mem_cons_of_mem _ tK_X12_83) ?_
            exact AW_fewer (fw_d (fw_k fw_n)) (t_X12_kindBy_62 N _ _ _ h)
          · refine AW_iconst (v := 5) dX12_kindBy_56 (by decide) ?_
            refine AW_goto (tgt := 62) dX12_kindBy_57 (by decide) ?_
            exact AW_fewer (fw_d (fw_k fw_n)) (t_X12_kindBy_62 N _ _ _ h)
        · refine AW_iconst (v := 3) dX12_kindBy_44 (by decide) ?_
          refine AW_goto (tgt := 62) dX12_kindBy_45 (by decide) ?_
          exact AW_fewer (fw_d (fw_k fw_n)) (t_X12_kindBy_62 N _ _ _ h)
      · refine AW_iconst (v := 4) dX12_kindBy_32 (by decide) ?_
        refine AW_goto (tgt := 62) dX12_kindBy_33 (by decide) ?_
        exact AW_fewer (fw_d (fw_k fw_n)) (t_X12_kindBy_62 N _ _ _ h)
    · refine AW_iconst (v := 2) dX12_kindBy_20 (by decide) ?_
      refine AW_goto (tgt := 62) dX12_kindBy_21 (by decide) ?_
      exact AW_fewer (fw_d (fw_k fw_n)) (t_X12_kindBy_62 N _ _ _ h)
  · refine AW_iconst (v := 1) dX12_kindBy_8 (by decide) ?_
    refine AW_goto (tgt := 62) dX12_kindBy_9 (by decide) ?_
    exact AW_fewer (fw_d (fw_k fw_n)) (t_X12_kindBy_62 N _ _ _ h)
def f_X12_kindBy (N : Nat) (A : hP) (x0 : Int64) : Option (Int32 × hP) := f_X12_kindBy_0 N A x0
set_option maxRecDepth 20000 in
theorem c_X12_kindBy {l : Launch} (N : Nat) (A : hP) (x0 : Int64) (res : Int32 × hP) (h : f_X12_kindBy N A x0 = some res) : Ct l mX12_kindBy 0 0 0 A [.long x0] (gi res) := Ct.of (lv := [(0, .long x0)]) (ls := [some (.long x0), none]) (by decide) (by simp [lv_args, g_cat_rf, cat_i, cat_l]) rfl (by simp [g_cat_rf, cat_i, cat_l]) (fun G => (t_X12_kindBy_0 N A x0 res h))
