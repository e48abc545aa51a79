abbrev mX12_laws : gM := gMk yX12_laws cX12_laws 5 (some .int)
def f_X12_laws_63 (N : Nat) (r23 : hP → Option Nat → Int32 → Int32 → Int32 → Option (Int32 × hP)) (A : hP) (x0 : Option Nat) (x1 : Int32) (x4 : Int32) (s0 : Int32) (s1 : Int32) : Option (Int32 × hP) := r23 A x0 x1 (s0 ||| s1) (x4 + (1 : Int32))
set_option maxRecDepth 20000 in
set_option maxHeartbeats 4000000 in
theorem t_X12_laws_63 {l : Launch} {G : gS} (N : Nat) (r23 : hP → Option Nat → Int32 → Int32 → Int32 → Option (Int32 × hP)) (hr23 : ∀ (A : hP) (x0 : Option Nat) (x1 : Int32) (x3 : Int32) (x4 : Int32) (res : Int32 × hP), r23 A x0 x1 x3 x4 = some res → AW l mX12_laws (g_rm 5 0 0) G (g_Qf G (gi res) 0 0) A 0 0 23 [some (va_rf x0), some (.int x1), none, some (.int x3), some (.int x4)] []) (A : hP) (x0 : Option Nat) (x1 : Int32) (x4 : Int32) (s0 : Int32) (s1 : Int32) (res : Int32 × hP) (h : f_X12_laws_63 N r23 A x0 x1 x4 s0 s1 = some res) : AW l mX12_laws (g_rm 5 0 0) G (g_Qf G (gi res) 0 0) A 0 0 63 [some (va_rf x0), some (.int x1), none, none, some (.int x4)] [.int s1, .int s0] := by
  unfold f_X12_laws_63 at h
  refine AW_ior dX12_laws_63 ?_
  refine AW_istore_n (ls' := [some (va_rf x0), some (.int x1), none, some (.int (s0 ||| s1)), some (.int x4)]) dX12_laws_64 (c1_n rfl) (by decide) rfl ?_
  refine AW_iinc (v := 1) (ls' := [some (va_rf x0), some (.int x1), none, some (.int (s0 ||| s1)), some (.int (x4 + (1 : Int32)))]) dX12_laws_65 rfl (c1_i rfl) (by decide) (by decide) rfl ?_
  refine AW_goto (tgt := 23) dX12_laws_68 (by decide) ?_
  exact (hr23 _ _ _ _ _ _ h)
def f_X12_laws_23 (N : Nat) : Nat → hP → Option Nat → Int32 → Int32 → Int32 → Option (Int32 × hP)
  | 0, _, _, _, _, _ => none
  | n + 1, A, x0, x1, x3, x4 => if (8 : Int32) ≤ x4 then (some (x3, A)) else ((oP A x0 11 18 (.int (x4 &&& (3 : Int32)))).bind fun A1 => (oP A1 x0 11 19 (.int (x4 >>> ((2 : Int32) &&& 31)))).bind fun A2 => (oCk A2 x0 11).bind fun _ => (f_X12_wrongDays N A2 x0 x1).bind fun q3 => if q3.1 = (0) then (f_X12_laws_63 N (f_X12_laws_23 N n) q3.2 x0 x1 x4 x3 ((1 : Int32) <<< (x4 &&& 31))) else (f_X12_laws_63 N (f_X12_laws_23 N n) q3.2 x0 x1 x4 x3 (0 : Int32)))
set_option maxRecDepth 20000 in
set_option maxHeartbeats 4000000 in
theorem t_X12_laws_23 {l : Launch} {G : gS} (N : Nat) : ∀ (n : Nat) (A : hP) (x0 : Option Nat) (x1 : Int32) (x3 : Int32) (x4 : Int32) (res : Int32 × hP), f_X12_laws_23 N n A x0 x1 x3 x4 = some res → AW l mX12_laws (g_rm 5 0 0) G (g_Qf G (gi res) 0 0) A 0 0 23 [some (va_rf x0), some (.int x1), none, some (.int x3), some (.int x4)] [] := by
  intro n
  induction n with
  | zero => intro A x0 x1 x3 x4 res h; cases h
  | succ n ih =>
    intro A x0 x1 x3 x4 res h
    rw [f_X12_laws_23] at h
    refine AW_iload dX12_laws_23 rfl ?_
    refine AW_bipush (v := 8) dX12_laws_25 (by decide) ?_
    refine AW_icmp_ge (tgt := 71) dX12_laws_27 (by decide) h (fun _ h => ?_) (fun _ h => ?_)
    · refine AW_iload_n dX12_laws_71 rfl ?_
      exact AW_iret dX12_laws_72 rfl ⟨Nat.zero_le _, Nat.zero_le _⟩ h
    · refine AW_aload_n dX12_laws_30 rfl ?_
      refine AW_iload dX12_laws_31 rfl ?_
      refine AW_iconst (v := 3) dX12_laws_33 (by decide) ?_
      refine AW_iand dX12_laws_34 ?_
      refine AW_put (ci := 11) (k0 := 18) (C := RX12) (T := TX12) (N := 31) (ty0 := tyX12) dX12_laws_35 rfl (gT_u tU_X12) tyX12_ok nmX12 (by decide) (List.mem_cons_of_mem _ tF_X12_174) (Or.inl rfl) rfl rfl h (fun A1 _ h => ?_)
      refine AW_aload_n dX12_laws_38 rfl ?_
      refine AW_iload dX12_laws_39 rfl ?_
      refine AW_iconst (v := 2) dX12_laws_41 (by decide) ?_
      refine AW_ishr dX12_laws_42 ?_
      refine AW_put (ci := 11) (k0 := 19) (C := RX12) (T := TX12) (N := 31) (ty0 := tyX12) dX12_laws_43 rfl (gT_u tU_X12) tyX12_ok nmX12 (by decide) (List.mem_cons_of_mem _ tF_X12_177) (Or.inl rfl) rfl rfl h (fun A2 _ h => ?_)
      refine AW_iload_n dX12_laws_46 rfl ?_
      refine AW_aload_n dX12_laws_47 rfl ?_
      refine AW_iload_n dX12_laws_48 rfl ?_
      refine AW_callVi (y := yX12_wrongDays) (cc := cX12_wrongDays) (n := 5) (d := 4) (mc := 0) (ms := 0) (np := 1) (ret := (some .int)) (As := [.int x1]) (st := [.int x3]) (ci := 11) dX12_laws_49 gT_s rfl tM_X12_231 tI_X12_wrongDays selp_X12_wrongDays tIni_X12 tY_X12_wrongDays (by decide +kernel) ⟨by decide, by decide⟩ ⟨by decide, by decide⟩ (Nat.le_of_ble_eq_true rfl) rfl h (fun q hq => c_X12_wrongDays N _ _ _ q hq) (fun q3 _ h => ?_)
      refine AW_if_ne (tgt := 62) dX12_laws_52 (by decide) h (fun _ h => ?_) (fun _ h => ?_)
      · refine AW_iconst (v := 0) dX12_laws_62 (by decide) ?_
        exact AW_fewer (fw_k (fw_k (fw_k (fw_d (fw_k fw_n))))) (t_X12_laws_63 N (f_X12_laws_23 N n) ih _ _ _ _ _ _ _ h)
      · refine AW_iconst (v := 1) dX12_laws_55 (by decide) ?_
        refine AW_iload dX12_laws_56 rfl ?_
        refine AW_ishl dX12_laws_58 ?_
        refine AW_goto (tgt := 63) dX12_laws_59 (by decide) ?_
        exact AW_fewer (fw_k (fw_k (fw_k (fw_d (fw_k fw_n))))) (t_X12_laws_63 N (f_X12_laws_23 N n) ih _ _ _ _ _ _ _ h)
def f_X12_laws_0 (N : Nat) (A : hP) (x0 : Option Nat) (x1 : Int32) : Option (Int32 × hP) := (oP A x0 11 0 (.int (0 : Int32))).bind fun A4 => (oCk A4 x0 11).bind fun _ => (f_X12_barred N A4 x0 x1 (1 : Int32)).bind fun q5 => if (0) ≤ q5.1 then (f_X12_laws_23 N N q5.2 x0 x1 (0 : Int32) (0 : Int32)) else (some (q5.1, q5.2))
set_option maxRecDepth 20000 in
set_option maxHeartbeats 4000000 in
theorem t_X12_laws_0 {l : Launch} {G : gS} (N : Nat) (A : hP) (x0 : Option Nat) (x1 : Int32) (res : Int32 × hP) (h : f_X12_laws_0 N A x0 x1 = some res) : AW l mX12_laws (g_rm 5 0 0) G (g_Qf G (gi res) 0 0) A 0 0 0 [some (va_rf x0), some (.int x1), none, none, none] [] := by
  unfold f_X12_laws_0 at h
  refine AW_aload_n dX12_laws_0 rfl ?_
  refine AW_iconst (v := 0) dX12_laws_1 (by decide) ?_
  refine AW_put (ci := 11) (k0 := 0) (C := RX12) (T := TX12) (N := 31) (ty0 := tyX12) dX12_laws_2 rfl (gT_u tU_X12) tyX12_ok nmX12 (by decide) (List.mem_cons_of_mem _ tF_X12_47) (Or.inl rfl) rfl rfl h (fun A4 _ h => ?_)
  refine AW_aload_n dX12_laws_5 rfl ?_
  refine AW_iload_n dX12_laws_6 rfl ?_
  refine AW_iconst (v := 1) dX12_laws_7 (by decide) ?_
  refine AW_callVi (y := yX12_barred) (cc := cX12_barred) (n := 4) (d := 2) (mc := 0) (ms := 0) (np := 2) (ret := (some .int)) (As := [.int x1, .int (1 : Int32)]) (st := []) (ci := 11) dX12_laws_8 gT_s rfl tM_X12_221 tI_X12_barred selp_X12_barred tIni_X12 tY_X12_barred (by decide +kernel) ⟨by decide, by decide⟩ ⟨by decide, by decide⟩ (Nat.le_of_ble_eq_true rfl) rfl h (fun q hq => c_X12_barred N _ _ _ _ q hq) (fun q5 _ h => ?_)
  refine AW_istore_n (ls' := [some (va_rf x0), some (.int x1), some (.int q5.1), none, none]) dX12_laws_11 (c1_i rfl) (by decide) rfl ?_
  refine AW_iload_n dX12_laws_12 rfl ?_
  refine AW_if_ge (tgt := 18) dX12_laws_13 (by decide) h (fun _ h => ?_) (fun _ h => ?_)
  · refine AW_iconst (v := 0) dX12_laws_18 (by decide) ?_
    refine AW_istore_n (ls' := [some (va_rf x0), some (.int x1), some (.int q5.1), some (.int (0 : Int32)), none]) dX12_laws_19 (c1_i rfl) (by decide) rfl ?_
    refine AW_iconst (v := 0) dX12_laws_20 (by decide) ?_
    refine AW_istore (ls' := [some (va_rf x0), some (.int x1), some (.int q5.1), some (.int (0 : Int32)), some (.int (0 : Int32))]) dX12_laws_21 (c1_i rfl) (by decide) rfl ?_
    exact AW_fewer (fw_k (fw_k (fw_d (fw_k (fw_k fw_n))))) (t_X12_laws_23 N N _ _ _ _ _ _ h)
  · refine AW_iload_n dX12_laws_16 rfl ?_
    exact AW_iret dX12_laws_17 rfl ⟨Nat.zero_le _, Nat.zero_le _⟩ h
def f_X12_laws (N : Nat) (A : hP) (x0 : Option Nat) (x1 : Int32) : Option (Int32 × hP) := f_X12_laws_0 N A x0 x1
set_option maxRecDepth 20000 in
theorem c_X12_laws {l : Launch} (N : Nat) (A : hP) (x0 : Option Nat) (x1 : Int32) (res : Int32 × hP) (h : f_X12_laws N A x0 x1 = some res) : Ct l mX12_laws 5 0 0 A [va_rf x0, .int x1] (gi res) := Ct.of (lv := [(0, va_rf x0), (1, .int x1)]) (ls := [some (va_rf x0), some (.int x1), none, none, none]) (by decide) (by simp [lv_args, g_cat_rf, cat_i, cat_l]) rfl (by simp [g_cat_rf, cat_i, cat_l]) (fun G => (t_X12_laws_0 N A x0 x1 res h))
abbrev mX12_error : gM := gMk yX12_error cX12_error 4 (some .int)
def f_X12_error_67 (N : Nat) (r35 : hP → Option Nat → Int32 → Int32 → Option (Int32 × hP)) (A : hP) (x0 : Option Nat) (x3 : Int32) (s0 : Int32) (s1 : Int32) : Option (Int32 × hP) := r35 A x0 (s0 ||| s1) (x3 + (1 : Int32))
set_option maxRecDepth 20000 in
set_option maxHeartbeats 4000000 in
theorem t_X12_error_67 {l : Launch} {G : gS} (N : Nat) (r35 : hP → Option Nat → Int32 → Int32 → Option (Int32 × hP)) (hr35 : ∀ (A : hP) (x0 : Option Nat) (x2 : Int32) (x3 : Int32) (res : Int32 × hP), r35 A x0 x2 x3 = some res → AW l mX12_error (g_rm 5 0 0) G (g_Qf G (gi res) 0 0) A 0 0 35 [some (va_rf x0), none, some (.int x2), some (.int x3)] []) (A : hP) (x0 : Option Nat) (x3 : Int32) (s0 : Int32) (s1 : Int32) (res : Int32 × hP) (h : f_X12_error_67 N r35 A x0 x3 s0 s1 = some res) : AW l mX12_error (g_rm 5 0 0) G (g_Qf G (gi res) 0 0) A 0 0 67 [some (va_rf x0), none, none, some (.int x3)] [.int s1, .int s0] := by
  unfold f_X12_error_67 at h
  refine AW_ior dX12_error_67 ?_
  refine AW_istore_n (ls' := [some (va_rf x0), none, some (.int (s0 ||| s1)), some (.int x3)]) dX12_error_68 (c1_n rfl) (by decide) rfl ?_
  refine AW_iinc (v := 1) (ls' := [some (va_rf x0), none, some (.int (s0 ||| s1)), some (.int (x3 + (1 : Int32)))]) dX12_error_69 rfl (c1_i rfl) (by decide) (by decide) rfl ?_
  refine AW_goto (tgt := 35) dX12_error_72 (by decide) ?_
  exact (hr35 _ _ _ _ _ h)
def f_X12_error_35 (N : Nat) : Nat → hP → Option Nat → Int32 → Int32 → Option (Int32 × hP)
  | 0, _, _, _, _ => none
  | n + 1, A, x0, x2, x3 => (oR A x0 11 5).bind fun v1 => (oA A v1 0 (4 : Int32)).bind fun v2 => if v2 ≤ x3 then (some (x2, A)) else ((oCk A x0 11).bind fun _ => (f_X12_shows N A x0 x3).bind fun q3 => (oR q3.2 x0 11 23).bind fun v4 => (oA q3.2 v4 0 x3).bind fun v5 => if q3.1 = v5 then (f_X12_error_67 N (f_X12_error_35 N n) q3.2 x0 x3 x2 (0 : Int32)) else (f_X12_error_67 N (f_X12_error_35 N n) q3.2 x0 x3 x2 ((1 : Int32) <<< (x3 &&& 31))))
set_option maxRecDepth 20000 in
set_option maxHeartbeats 4000000 in
theorem t_X12_error_35 {l : Launch} {G : gS} (N : Nat) : ∀ (n : Nat) (A : hP) (x0 : Option Nat) (x2 : Int32) (x3 : Int32) (res : Int32 × hP), f_X12_error_35 N n A x0 x2 x3 = some res → AW l mX12_error (g_rm 5 0 0) G (g_Qf G (gi res) 0 0) A 0 0 35 [some (va_rf x0), none, some (.int x2), some (.int x3)] [] := by
  intro n
  induction n with
  | zero => intro A x0 x2 x3 res h; cases h
  | succ n ih =>
    intro A x0 x2 x3 res h
    rw [f_X12_error_35] at h
    refine AW_iload_n dX12_error_35 rfl ?_
    refine AW_aload_n dX12_error_36 rfl ?_
    refine AW_getR (ci := 11) (k0 := 5) (C := RX12) (T := TX12) (N := 31) dX12_error_37 rfl (gT_u tU_X12) (by decide) (List.mem_cons_of_mem _ tF_X12_19) h (fun v1 _ h => ?_)
    refine AW_iconst (v := 4) dX12_error_40 (by decide) ?_
    refine AW_iald dX12_error_41 h (fun v2 _ h => ?_)
    refine AW_icmp_ge (tgt := 75) dX12_error_42 (by decide) h (fun _ h => ?_) (fun _ h => ?_)
    · refine AW_iload_n dX12_error_75 rfl ?_
      exact AW_iret dX12_error_76 rfl ⟨Nat.zero_le _, Nat.zero_le _⟩ h
    · refine AW_iload_n dX12_error_45 rfl ?_
      refine AW_aload_n dX12_error_46 rfl ?_
      refine AW_iload_n dX12_error_47 rfl ?_
      refine AW_callVi (y := yX12_shows) (cc := cX12_shows) (n := 5) (d := 3) (mc := 0) (ms := 0) (np := 1) (ret := (some .int)) (As := [.int x3]) (st := [.int x2]) (ci := 11) dX12_error_48 gT_s rfl tM_X12_206 tI_X12_shows selp_X12_shows tIni_X12 tY_X12_shows (by decide +kernel) ⟨by decide, by decide⟩ ⟨by decide, by decide⟩ (Nat.le_of_ble_eq_true rfl) rfl h (fun q hq => c_X12_shows N _ _ _ q hq) (fun q3 _ h => ?_)
      refine AW_aload_n dX12_error_51 rfl ?_
      refine AW_getR (ci := 11) (k0 := 23) (C := RX12) (T := TX12) (N := 31) dX12_error_52 rfl (gT_u tU_X12) (by decide) (List.mem_cons_of_mem _ tF_X12_34) h (fun v4 _ h => ?_)
      refine AW_iload_n dX12_error_55 rfl ?_
      refine AW_iald dX12_error_56 h (fun v5 _ h => ?_)
      refine AW_icmp_eq (tgt := 66) dX12_error_57 (by decide) h (fun _ h => ?_) (fun _ h => ?_)
      · refine AW_iconst (v := 0) dX12_error_66 (by decide) ?_
        exact AW_fewer (fw_k (fw_k (fw_d (fw_k fw_n)))) (t_X12_error_67 N (f_X12_error_35 N n) ih _ _ _ _ _ _ h)
      · refine AW_iconst (v := 1) dX12_error_60 (by decide) ?_
        refine AW_iload_n dX12_error_61 rfl ?_
        refine AW_ishl dX12_error_62 ?_
        refine AW_goto (tgt := 67) dX12_error_63 (by decide) ?_
        exact AW_fewer (fw_k (fw_k (fw_d (fw_k fw_n)))) (t_X12_error_67 N (f_X12_error_35 N n) ih _ _ _ _ _ _ h)
def f_X12_error_0 (N : Nat) (A : hP) (x0 : Option Nat) (x1 : Int32) : Option (Int32 × hP) := (oP A x0 11 0 (.int (0 : Int32))).bind fun A6 => (oCk A6 x0 11).bind fun _ => (f_X12_isDay N A6 x0 x1).bind fun q7 => if q7.1 = (0) then (some ((-1000001 : Int32), q7.2)) else ((oR q7.2 x0 11 5).bind fun v8 => (oA q7.2 v8 0 (4 : Int32)).bind fun v9 => (oCk q7.2 x0 11).bind fun _ => (f_X12_layTrulyShown N q7.2 x0 v9).bind fun q10 => (oP q10.2 x0 11 20 (.int x1)).bind fun A11 => f_X12_error_35 N N A11 x0 (0 : Int32) (0 : Int32))
set_option maxRecDepth 20000 in
set_option maxHeartbeats 4000000 in
theorem t_X12_error_0 {l : Launch} {G : gS} (N : Nat) (A : hP) (x0 : Option Nat) (x1 : Int32) (res : Int32 × hP) (h : f_X12_error_0 N A x0 x1 = some res) : AW l mX12_error (g_rm 5 0 0) G (g_Qf G (gi res) 0 0) A 0 0 0 [some (va_rf x0), some (.int x1), none, none] [] := by
  unfold f_X12_error_0 at h
  refine AW_aload_n dX12_error_0 rfl ?_
  refine AW_iconst (v := 0) dX12_error_1 (by decide) ?_
  refine AW_put (ci := 11) (k0 := 0) (C := RX12) (T := TX12) (N := 31) (ty0 := tyX12) dX12_error_2 rfl (gT_u tU_X12) tyX12_ok nmX12 (by decide) (List.mem_cons_of_mem _ tF_X12_47) (Or.inl rfl) rfl rfl h (fun A6 _ h => ?_)
  refine AW_aload_n dX12_error_5 rfl ?_
  refine AW_iload_n dX12_error_6 rfl ?_
  refine AW_callVi (y := yX12_isDay) (cc := cX12_isDay) (n := 2) (d := 1) (mc := 0) (ms := 0) (np := 1) (ret := (some .boolean)) (As := [.int x1]) (st := []) (ci := 11) dX12_error_7 gT_s rfl tM_X12_209 tI_X12_isDay selp_X12_isDay tIni_X12 tY_X12_isDay (by decide +kernel) ⟨by decide, by decide⟩ ⟨by decide, by decide⟩ (Nat.le_of_ble_eq_true rfl) rfl h (fun q hq => c_X12_isDay N _ _ _ q hq) (fun q7 _ h => ?_)
  refine AW_if_ne (tgt := 16) dX12_error_10 (by decide) h (fun _ h => ?_) (fun _ h => ?_)
  · refine AW_aload_n dX12_error_16 rfl ?_
    refine AW_aload_n dX12_error_17 rfl ?_
    refine AW_getR (ci := 11) (k0 := 5) (C := RX12) (T := TX12) (N := 31) dX12_error_18 rfl (gT_u tU_X12) (by decide) (List.mem_cons_of_mem _ tF_X12_19) h (fun v8 _ h => ?_)
    refine AW_iconst (v := 4) dX12_error_21 (by decide) ?_
    refine AW_iald dX12_error_22 h (fun v9 _ h => ?_)
    refine AW_callVu (y := yX12_layTrulyShown) (cc := cX12_layTrulyShown) (n := 3) (d := 4) (mc := 0) (ms := 0) (np := 1) (ret := none) (As := [.int v9]) (st := []) (ci := 11) dX12_error_23 gT_s rfl tM_X12_240 tI_X12_layTrulyShown selp_X12_layTrulyShown tIni_X12 tY_X12_layTrulyShown (by decide +kernel) ⟨by decide, by decide⟩ ⟨by decide, by decide⟩ (Nat.le_of_ble_eq_true rfl) rfl h (fun q hq => c_X12_layTrulyShown N _ _ _ q hq) (fun q10 _ h => ?_)
    refine AW_aload_n dX12_error_26 rfl ?_
    refine AW_iload_n dX12_error_27 rfl ?_
    refine AW_put (ci := 11) (k0 := 20) (C := RX12) (T := TX12) (N := 31) (ty0 := tyX12) dX12_error_28 rfl (gT_u tU_X12) tyX12_ok nmX12 (by decide) (List.mem_cons_of_mem _ tF_X12_180) (Or.inl rfl) rfl rfl h (fun A11 _ h => ?_)
    refine AW_iconst (v := 0) dX12_error_31 (by decide) ?_
    refine AW_istore_n (ls' := [some (va_rf x0), some (.int x1), some (.int (0 : Int32)), none]) dX12_error_32 (c1_i rfl) (by decide) rfl ?_
    refine AW_iconst (v := 0) dX12_error_33 (by decide) ?_
    refine AW_istore_n (ls' := [some (va_rf x0), some (.int x1), some (.int (0 : Int32)), some (.int (0 : Int32))]) dX12_error_34 (c1_i rfl) (by decide) rfl ?_
    exact AW_fewer (fw_k (fw_d (fw_k (fw_k fw_n)))) (t_X12_error_35 N N _ _ _ _ _ h)
  · refine AW_ldc (v := -1000001) dX12_error_13 (List.mem_cons_of_mem _ tK_X12_67) ?_
    exact AW_iret dX12_error_15 rfl ⟨Nat.zero_le _, Nat.zero_le _⟩ h
def f_X12_error (N : Nat) (A : hP) (x0 : Option Nat) (x1 : Int32) : Option (Int32 × hP) := f_X12_error_0 N A x0 x1
set_option maxRecDepth 20000 in
theorem c_X12_error {l : Launch} (N : Nat) (A : hP) (x0 : Option Nat) (x1 : Int32) (res : Int32 × hP) (h : f_X12_error N A x0 x1 = some res) : Ct l mX12_error 5 0 0 A [va_rf x0, .int x1] (gi res) := Ct.of (lv := [(0, va_rf x0), (1, .int x1)]) (ls := [some (va_rf x0), some (.int x1), none, none]) (by decide) (by simp [lv_args, g_cat_rf, cat_i, cat_l]) rfl (by simp [g_cat_rf, cat_i, cat_l]) (fun G => (t_X12_error_0 N A x0 x1 res h))
abbrev mX12_sold : gM := gMk yX12_sold cX12_sold 3 (some .int)
def f_X12_sold_41 (N : Nat) (A : hP) : Option (Int32 × hP) := some ((-1000001 : Int32), A)
set_option maxRecDepth 20000 in
set_option maxHeartbeats 4000000 in
theorem t_X12_sold_41 {l : Launch} {G : gS} (N : Nat) (A : hP) (res : Int32 × hP) (h : f_X12_sold_41 N A  = some res) : AW l mX12_sold (g_rm 4 0 0) G (g_Qf G (gi res) 0 0) A 0 0 41 [none, none, none] [] := by
  unfold f_X12_sold_41 at h
  refine AW_ldc (v := -1000001) dX12_sold_41 (List.mem_cons_of_mem _ tK_X12_67) ?_
  exact AW_iret dX12_sold_43 rfl ⟨Nat.zero_le _, Nat.zero_le _⟩ h
def f_X12_sold_0 (N : Nat) (A : hP) (x0 : Option Nat) (x1 : Int32) (x2 : Int32) : Option (Int32 × hP) := (oP A x0 11 0 (.int (0 : Int32))).bind fun A1 => (oCk A1 x0 11).bind fun _ => (f_X12_isThing N A1 x0 x1).bind fun q2 => if q2.1 = (0) then (f_X12_sold_41 N q2.2) else ((oCk q2.2 x0 11).bind fun _ => (f_X12_isDay N q2.2 x0 x2).bind fun q3 => if q3.1 = (0) then (f_X12_sold_41 N q3.2) else (if x2 = (0) then (f_X12_sold_41 N q3.2) else ((oR q3.2 x0 11 5).bind fun v4 => (oA q3.2 v4 0 ((13 : Int32) + x2)).bind fun v5 => if ((v5 >>> (x1 &&& 31)) &&& (1 : Int32)) = (0) then (f_X12_sold_41 N q3.2) else ((oCk q3.2 x0 11).bind fun _ => (f_X12_layTruly N q3.2 x0).bind fun q6 => (oCk q6.2 x0 11).bind fun _ => (f_X12_shows N q6.2 x0 x2).bind fun q7 => (oCk q7.2 x0 11).bind fun _ => (f_X12_shows N q7.2 x0 (x2 - (1 : Int32))).bind fun q8 => (oCk q8.2 x0 11).bind fun _ => (f_X12_heavyOn N q8.2 x0 x1 x2).bind fun q9 => some ((q7.1 - q8.1) - q9.1, q9.2)))))
set_option maxRecDepth 20000 in
set_option maxHeartbeats 4000000 in
theorem t_X12_sold_0 {l : Launch} {G : gS} (N : Nat) (A : hP) (x0 : Option Nat) (x1 : Int32) (x2 : Int32) (res : Int32 × hP) (h : f_X12_sold_0 N A x0 x1 x2 = some res) : AW l mX12_sold (g_rm 4 0 0) G (g_Qf G (gi res) 0 0) A 0 0 0 [some (va_rf x0), some (.int x1), some (.int x2)] [] := by
  unfold f_X12_sold_0 at h
  refine AW_aload_n dX12_sold_0 rfl ?_
  refine AW_iconst (v := 0) dX12_sold_1 (by decide) ?_
  refine AW_put (ci := 11) (k0 := 0) (C := RX12) (T := TX12) (N := 31) (ty0 := tyX12) dX12_sold_2 rfl (gT_u tU_X12) tyX12_ok nmX12 (by decide) (List.mem_cons_of_mem _ tF_X12_47) (Or.inl rfl) rfl rfl h (fun A1 _ h => ?_)
  refine AW_aload_n dX12_sold_5 rfl ?_
  refine AW_iload_n dX12_sold_6 rfl ?_
  refine AW_callVi (y := yX12_isThing) (cc := cX12_isThing) (n := 2) (d := 1) (mc := 0) (ms := 0) (np := 1) (ret := (some .boolean)) (As := [.int x1]) (st := []) (ci := 11) dX12_sold_7 gT_s rfl tM_X12_214 tI_X12_isThing selp_X12_isThing tIni_X12 tY_X12_isThing (by decide +kernel) ⟨by decide, by decide⟩ ⟨by decide, by decide⟩ (Nat.le_of_ble_eq_true rfl) rfl h (fun q hq => c_X12_isThing N _ _ _ q hq) (fun q2 _ h => ?_)
  refine AW_if_eq (tgt := 41) dX12_sold_10 (by decide) h (fun _ h => ?_) (fun _ h => ?_)
  · exact AW_fewer (fw_d (fw_d (fw_d fw_n))) (t_X12_sold_41 N _ _ h)
  · refine AW_aload_n dX12_sold_13 rfl ?_
    refine AW_iload_n dX12_sold_14 rfl ?_
    refine AW_callVi (y := yX12_isDay) (cc := cX12_isDay) (n := 2) (d := 1) (mc := 0) (ms := 0) (np := 1) (ret := (some .boolean)) (As := [.int x2]) (st := []) (ci := 11) dX12_sold_15 gT_s rfl tM_X12_209 tI_X12_isDay selp_X12_isDay tIni_X12 tY_X12_isDay (by decide +kernel) ⟨by decide, by decide⟩ ⟨by decide, by decide⟩ (Nat.le_of_ble_eq_true rfl) rfl h (fun q hq => c_X12_isDay N _ _ _ q hq) (fun q3 _ h => ?_)
    refine AW_if_eq (tgt := 41) dX12_sold_18 (by decide) h (fun _ h => ?_) (fun _ h => ?_)
    · exact AW_fewer (fw_d (fw_d (fw_d fw_n))) (t_X12_sold_41 N _ _ h)
    · refine AW_iload_n dX12_sold_21 rfl ?_
      refine AW_if_eq (tgt := 41) dX12_sold_22 (by decide) h (fun _ h => ?_) (fun _ h => ?_)
      · exact AW_fewer (fw_d (fw_d (fw_d fw_n))) (t_X12_sold_41 N _ _ h)
      · refine AW_aload_n dX12_sold_25 rfl ?_
        refine AW_getR (ci := 11) (k0 := 5) (C := RX12) (T := TX12) (N := 31) dX12_sold_26 rfl (gT_u tU_X12) (by decide) (List.mem_cons_of_mem _ tF_X12_19) h (fun v4 _ h => ?_)
        refine AW_bipush (v := 13) dX12_sold_29 (by decide) ?_
        refine AW_iload_n dX12_sold_31 rfl ?_
        refine AW_iadd dX12_sold_32 ?_
        refine AW_iald dX12_sold_33 h (fun v5 _ h => ?_)
        refine AW_iload_n dX12_sold_34 rfl ?_
        refine AW_ishr dX12_sold_35 ?_
        refine AW_iconst (v := 1) dX12_sold_36 (by decide) ?_
        refine AW_iand dX12_sold_37 ?_
        refine AW_if_ne (tgt := 44) dX12_sold_38 (by decide) h (fun _ h => ?_) (fun _ h => ?_)
        · refine AW_aload_n dX12_sold_44 rfl ?_
          refine AW_callVu (y := yX12_layTruly) (cc := cX12_layTruly) (n := 2) (d := 0) (mc := 0) (ms := 0) (np := 0) (ret := none) (As := []) (st := []) (ci := 11) dX12_sold_45 gT_s rfl tM_X12_203 tI_X12_layTruly selp_X12_layTruly tIni_X12 tY_X12_layTruly (by decide +kernel) ⟨by decide, by decide⟩ ⟨by decide, by decide⟩ (Nat.le_of_ble_eq_true rfl) rfl h (fun q hq => c_X12_layTruly N _ _ q hq) (fun q6 _ h => ?_)
          refine AW_aload_n dX12_sold_48 rfl ?_
          refine AW_iload_n dX12_sold_49 rfl ?_
          refine AW_callVi (y := yX12_shows) (cc := cX12_shows) (n := 5) (d := 3) (mc := 0) (ms := 0) (np := 1) (ret := (some .int)) (As := [.int x2]) (st := []) (ci := 11) dX12_sold_50 gT_s rfl tM_X12_206 tI_X12_shows selp_X12_shows tIni_X12 tY_X12_shows (by decide +kernel) ⟨by decide, by decide⟩ ⟨by decide, by decide⟩ (Nat.le_of_ble_eq_true rfl) rfl h (fun q hq => c_X12_shows N _ _ _ q hq) (fun q7 _ h => ?_)
          refine AW_aload_n dX12_sold_53 rfl ?_
          refine AW_iload_n dX12_sold_54 rfl ?_
          refine AW_iconst (v := 1) dX12_sold_55 (by decide) ?_
          refine AW_isub dX12_sold_56 ?_
          refine AW_callVi (y := yX12_shows) (cc := cX12_shows) (n := 5) (d := 3) (mc := 0) (ms := 0) (np := 1) (ret := (some .int)) (As := [.int (x2 - (1 : Int32))]) (st := [.int q7.1]) (ci := 11) dX12_sold_57 gT_s rfl tM_X12_206 tI_X12_shows selp_X12_shows tIni_X12 tY_X12_shows (by decide +kernel) ⟨by decide, by decide⟩ ⟨by decide, by decide⟩ (Nat.le_of_ble_eq_true rfl) rfl h (fun q hq => c_X12_shows N _ _ _ q hq) (fun q8 _ h => ?_)
          refine AW_isub dX12_sold_60 ?_
          refine AW_aload_n dX12_sold_61 rfl ?_
          refine AW_iload_n dX12_sold_62 rfl ?_
          refine AW_iload_n dX12_sold_63 rfl ?_
          refine AW_callVi (y := yX12_heavyOn) (cc := cX12_heavyOn) (n := 3) (d := 1) (mc := 0) (ms := 0) (np := 2) (ret := (some .int)) (As := [.int x1, .int x2]) (st := [.int (q7.1 - q8.1)]) (ci := 11) dX12_sold_64 gT_s rfl tM_X12_186 tI_X12_heavyOn selp_X12_heavyOn tIni_X12 tY_X12_heavyOn (by decide +kernel) ⟨by decide, by decide⟩ ⟨by decide, by decide⟩ (Nat.le_of_ble_eq_true rfl) rfl h (fun q hq => c_X12_heavyOn N _ _ _ _ q hq) (fun q9 _ h => ?_)
          refine AW_isub dX12_sold_67 ?_
          exact AW_iret dX12_sold_68 rfl ⟨Nat.zero_le _, Nat.zero_le _⟩ h
        · exact AW_fewer (fw_d (fw_d (fw_d fw_n))) (t_X12_sold_41 N _ _ h)
def f_X12_sold (N : Nat) (A : hP) (x0 : Option Nat) (x1 : Int32) (x2 : Int32) : Option (Int32 × hP) := f_X12_sold_0 N A x0 x1 x2
set_option maxRecDepth 20000 in
theorem c_X12_sold {l : Launch} (N : Nat) (A : hP) (x0 : Option Nat) (x1 : Int32) (x2 : Int32) (res : Int32 × hP) (h : f_X12_sold N A x0 x1 x2 = some res) : Ct l mX12_sold 4 0 0 A [va_rf x0, .int x1, .int x2] (gi res) := Ct.of (lv := [(0, va_rf x0), (1, .int x1), (2, .int x2)]) (ls := [some (va_rf x0), some (.int x1), some (.int x2)]) (by decide) (by simp [lv_args, g_cat_rf, cat_i, cat_l]) rfl (by simp [g_cat_rf, cat_i, cat_l]) (fun G => (t_X12_sold_0 N A x0 x1 x2 res h))
abbrev mX12_image : gM := gMk yX12_image cX12_image 3 (some .int)
def f_X12_image_30 (N : Nat) : Nat → hP → Option Nat → Int32 → Int32 → Option (Int32 × hP)
  | 0, _, _, _, _ => none
  | n + 1, A, x0, x1, x2 => if (39 : Int32) ≤ x2 then ((oR A x0 11 27).bind fun v1 => if (1 : Int32) = 0 ∨ (1 : Int32) = 1 then (oS A v1 2 x1 (1 : Int32)).bind fun A2 => some ((1 : Int32), A2) else none) else ((oR A x0 11 28).bind fun v3 => (oR A x0 11 5).bind fun v4 => (oA A v4 0 x2).bind fun v5 => (oS A v3 0 (((39 : Int32) * x1) + x2) v5).bind fun A6 => f_X12_image_30 N n A6 x0 x1 (x2 + (1 : Int32)))
set_option maxRecDepth 20000 in
set_option maxHeartbeats 4000000 in
theorem t_X12_image_30 {l : Launch} {G : gS} (N : Nat) : ∀ (n : Nat) (A : hP) (x0 : Option Nat) (x1 : Int32) (x2 : Int32) (res : Int32 × hP), f_X12_image_30 N n A x0 x1 x2 = some res → AW l mX12_image (g_rm 1 0 0) G (g_Qf G (gi res) 0 0) A 0 0 30 [some (va_rf x0), some (.int x1), some (.int x2)] [] := by
  intro n
  induction n with
  | zero => intro A x0 x1 x2 res h; cases h
  | succ n ih =>
    intro A x0 x1 x2 res h
    rw [f_X12_image_30] at h
    refine AW_iload_n dX12_image_30 rfl ?_
    refine AW_bipush (v := 39) dX12_image_31 (by decide) ?_
    refine AW_icmp_ge (tgt := 59) dX12_image_33 (by decide) h (fun _ h => ?_) (fun _ h => ?_)
    · refine AW_aload_n dX12_image_59 rfl ?_
      refine AW_getR (ci := 11) (k0 := 27) (C := RX12) (T := TX12) (N := 31) dX12_image_60 rfl (gT_u tU_X12) (by decide) (List.mem_cons_of_mem _ tF_X12_37) h (fun v1 _ h => ?_)
      refine AW_iload_n dX12_image_63 rfl ?_
      refine AW_iconst (v := 1) dX12_image_64 (by decide) ?_
      refine AW_zast dX12_image_65 h (fun A2 _ h => ?_)
      refine AW_iconst (v := 1) dX12_image_66 (by decide) ?_
      exact AW_iret dX12_image_67 rfl ⟨Nat.zero_le _, Nat.zero_le _⟩ h
    · refine AW_aload_n dX12_image_36 rfl ?_
      refine AW_getR (ci := 11) (k0 := 28) (C := RX12) (T := TX12) (N := 31) dX12_image_37 rfl (gT_u tU_X12) (by decide) (List.mem_cons_of_mem _ tF_X12_41) h (fun v3 _ h => ?_)
      refine AW_bipush (v := 39) dX12_image_40 (by decide) ?_
      refine AW_iload_n dX12_image_42 rfl ?_
      refine AW_imul dX12_image_43 ?_
      refine AW_iload_n dX12_image_44 rfl ?_
      refine AW_iadd dX12_image_45 ?_
      refine AW_aload_n dX12_image_46 rfl ?_
      refine AW_getR (ci := 11) (k0 := 5) (C := RX12) (T := TX12) (N := 31) dX12_image_47 rfl (gT_u tU_X12) (by decide) (List.mem_cons_of_mem _ tF_X12_19) h (fun v4 _ h => ?_)
      refine AW_iload_n dX12_image_50 rfl ?_
      refine AW_iald dX12_image_51 h (fun v5 _ h => ?_)
      refine AW_iast dX12_image_52 h (fun A6 _ h => ?_)
      refine AW_iinc (v := 1) (ls' := [some (va_rf x0), some (.int x1), some (.int (x2 + (1 : Int32)))]) dX12_image_53 rfl (c1_i rfl) (by decide) (by decide) rfl ?_
      refine AW_goto (tgt := 30) dX12_image_56 (by decide) ?_
      exact (ih _ _ _ _ _ h)
def f_X12_image_0 (N : Nat) (A : hP) (x0 : Option Nat) (x1 : Int32) : Option (Int32 × hP) := (oP A x0 11 0 (.int (0 : Int32))).bind fun A7 => (f_X12_in N A7 x1.toInt64 (0 : Int64) (1 : Int64)).bind fun q8 => if q8.1 = (0) then (some ((-1000001 : Int32), q8.2)) else ((oCk q8.2 x0 11).bind fun _ => (f_X12_isThere N q8.2 x0).bind fun q9 => if q9.1 = (0) then (some ((-1000002 : Int32), q9.2)) else (f_X12_image_30 N N q9.2 x0 x1 (0 : Int32)))
set_option maxRecDepth 20000 in
set_option maxHeartbeats 4000000 in
theorem t_X12_image_0 {l : Launch} {G : gS} (N : Nat) (A : hP) (x0 : Option Nat) (x1 : Int32) (res : Int32 × hP) (h : f_X12_image_0 N A x0 x1 = some res) : AW l mX12_image (g_rm 1 0 0) G (g_Qf G (gi res) 0 0) A 0 0 0 [some (va_rf x0), some (.int x1), none] [] := by
  unfold f_X12_image_0 at h
  refine AW_aload_n dX12_image_0 rfl ?_
  refine AW_iconst (v := 0) dX12_image_1 (by decide) ?_
  refine AW_put (ci := 11) (k0 := 0) (C := RX12) (T := TX12) (N := 31) (ty0 := tyX12) dX12_image_2 rfl (gT_u tU_X12) tyX12_ok nmX12 (by decide) (List.mem_cons_of_mem _ tF_X12_47) (Or.inl rfl) rfl rfl h (fun A7 _ h => ?_)
  refine AW_iload_n dX12_image_5 rfl ?_
  refine AW_i2l dX12_image_6 ?_
  refine AW_lconst (v := 0) dX12_image_7 (by decide) ?_
  refine AW_lconst (v := 1) dX12_image_8 (by decide) ?_
  refine AW_callSi (y := yX12_in) (cc := cX12_in) (n := 6) (d := 0) (mc := 0) (ms := 0) (np := 3) (ret := (some .boolean)) (As := [.long x1.toInt64, .long (0 : Int64), .long (1 : Int64)]) (st := []) dX12_image_9 gT_s tM_X12_57 tS_X12_in tIni_X12 tY_X12_in (by decide +kernel) ⟨by decide, by decide⟩ ⟨by decide, by decide⟩ (Nat.le_of_ble_eq_true rfl) rfl h (fun q hq => c_X12_in N _ _ _ _ q hq) (fun q8 _ h => ?_)
  refine AW_if_ne (tgt := 18) dX12_image_12 (by decide) h (fun _ h => ?_) (fun _ h => ?_)
  · refine AW_aload_n dX12_image_18 rfl ?_
    refine AW_callVi (y := yX12_isThere) (cc := cX12_isThere) (n := 1) (d := 0) (mc := 0) (ms := 0) (np := 0) (ret := (some .boolean)) (As := []) (st := []) (ci := 11) dX12_image_19 gT_s rfl tM_X12_195 tI_X12_isThere selp_X12_isThere tIni_X12 tY_X12_isThere (by decide +kernel) ⟨by decide, by decide⟩ ⟨by decide, by decide⟩ (Nat.le_of_ble_eq_true rfl) rfl h (fun q hq => c_X12_isThere N _ _ q hq) (fun q9 _ h => ?_)
    refine AW_if_ne (tgt := 28) dX12_image_22 (by decide) h (fun _ h => ?_) (fun _ h => ?_)
    · refine AW_iconst (v := 0) dX12_image_28 (by decide) ?_
      refine AW_istore_n (ls' := [some (va_rf x0), some (.int x1), some (.int (0 : Int32))]) dX12_image_29 (c1_i rfl) (by decide) rfl ?_
      exact (t_X12_image_30 N N _ _ _ _ _ h)
    · refine AW_ldc (v := -1000002) dX12_image_25 (List.mem_cons_of_mem _ tK_X12_199) ?_
      exact AW_iret dX12_image_27 rfl ⟨Nat.zero_le _, Nat.zero_le _⟩ h
  · refine AW_ldc (v := -1000001) dX12_image_15 (List.mem_cons_of_mem _ tK_X12_67) ?_
    exact AW_iret dX12_image_17 rfl ⟨Nat.zero_le _, Nat.zero_le _⟩ h
def f_X12_image (N : Nat) (A : hP) (x0 : Option Nat) (x1 : Int32) : Option (Int32 × hP) := f_X12_image_0 N A x0 x1
set_option maxRecDepth 20000 in
theorem c_X12_image {l : Launch} (N : Nat) (A : hP) (x0 : Option Nat) (x1 : Int32) (res : Int32 × hP) (h : f_X12_image N A x0 x1 = some res) : Ct l mX12_image 1 0 0 A [va_rf x0, .int x1] (gi res) := Ct.of (lv := [(0, va_rf x0), (1, .int x1)]) (ls := [some (va_rf x0), some (.int x1), none]) (by decide) (by simp [lv_args, g_cat_rf, cat_i, cat_l]) rfl (by simp [g_cat_rf, cat_i, cat_l]) (fun G => (t_X12_image_0 N A x0 x1 res h))
abbrev mX12_restore : gM := gMk yX12_restore cX12_restore 3 (some .int)
def f_X12_restore_32 (N : Nat) : Nat → hP → Option Nat → Int32 → Int32 → Option (Int32 × hP)
  | 0, _, _, _, _ => none
  | n + 1, A, x0, x1, x2 => if (39 : Int32) ≤ x2 then (some ((1 : Int32), A)) else ((oR A x0 11 5).bind fun v1 => (oR A x0 11 28).bind fun v2 => (oA A v2 0 (((39 : Int32) * x1) + x2)).bind fun v3 => (oS A v1 0 x2 v3).bind fun A4 => f_X12_restore_32 N n A4 x0 x1 (x2 + (1 : Int32)))
set_option maxRecDepth 20000 in
set_option maxHeartbeats 4000000 in
theorem t_X12_restore_32 {l : Launch} {G : gS} (N : Nat) : ∀ (n : Nat) (A : hP) (x0 : Option Nat) (x1 : Int32) (x2 : Int32) (res : Int32 × hP), f_X12_restore_32 N n A x0 x1 x2 = some res → AW l mX12_restore (g_rm 1 0 0) G (g_Qf G (gi res) 0 0) A 0 0 32 [some (va_rf x0), some (.int x1), some (.int x2)] [] := by
  intro n
  induction n with
  | zero => intro A x0 x1 x2 res h; cases h
  | succ n ih =>
    intro A x0 x1 x2 res h
    rw [f_X12_restore_32] at h
    refine AW_iload_n dX12_restore_32 rfl ?_
    refine AW_bipush (v := 39) dX12_restore_33 (by decide) ?_
    refine AW_icmp_ge (tgt := 61) dX12_restore_35 (by decide) h (fun _ h => ?_) (fun _ h => ?_)
    · refine AW_iconst (v := 1) dX12_restore_61 (by decide) ?_
      exact AW_iret dX12_restore_62 rfl ⟨Nat.zero_le _, Nat.zero_le _⟩ h
    · refine AW_aload_n dX12_restore_38 rfl ?_
      refine AW_getR (ci := 11) (k0 := 5) (C := RX12) (T := TX12) (N := 31) dX12_restore_39 rfl (gT_u tU_X12) (by decide) (List.mem_cons_of_mem _ tF_X12_19) h (fun v1 _ h => ?_)
      refine AW_iload_n dX12_restore_42 rfl ?_
      refine AW_aload_n dX12_restore_43 rfl ?_
      refine AW_getR (ci := 11) (k0 := 28) (C := RX12) (T := TX12) (N := 31) dX12_restore_44 rfl (gT_u tU_X12) (by decide) (List.mem_cons_of_mem _ tF_X12_41) h (fun v2 _ h => ?_)
      refine AW_bipush (v := 39) dX12_restore_47 (by decide) ?_
      refine AW_iload_n dX12_restore_49 rfl ?_
      refine AW_imul dX12_restore_50 ?_
      refine AW_iload_n dX12_restore_51 rfl ?_
      refine AW_iadd dX12_restore_52 ?_
      refine AW_iald dX12_restore_53 h (fun v3 _ h => ?_)
      refine AW_iast dX12_restore_54 h (fun A4 _ h => ?_)
      refine AW_iinc (v := 1) (ls' := [some (va_rf x0), some (.int x1), some (.int (x2 + (1 : Int32)))]) dX12_restore_55 rfl (c1_i rfl) (by decide) (by decide) rfl ?_
      refine AW_goto (tgt := 32) dX12_restore_58 (by decide) ?_
      exact (ih _ _ _ _ _ h)
def f_X12_restore_0 (N : Nat) (A : hP) (x0 : Option Nat) (x1 : Int32) : Option (Int32 × hP) := (oP A x0 11 0 (.int (0 : Int32))).bind fun A5 => (f_X12_in N A5 x1.toInt64 (0 : Int64) (1 : Int64)).bind fun q6 => if q6.1 = (0) then (some ((-1000001 : Int32), q6.2)) else ((oR q6.2 x0 11 27).bind fun v7 => (oA q6.2 v7 2 x1).bind fun v8 => if v8 = (0) then (some ((-1000002 : Int32), q6.2)) else (f_X12_restore_32 N N q6.2 x0 x1 (0 : Int32)))
set_option maxRecDepth 20000 in
set_option maxHeartbeats 4000000 in
theorem t_X12_restore_0 {l : Launch} {G : gS} (N : Nat) (A : hP) (x0 : Option Nat) (x1 : Int32) (res : Int32 × hP) (h : f_X12_restore_0 N A x0 x1 = some res) : AW l mX12_restore (g_rm 1 0 0) G (g_Qf G (gi res) 0 0) A 0 0 0 [some (va_rf x0), some (.int x1), none] [] := by
  unfold f_X12_restore_0 at h
  refine AW_aload_n dX12_restore_0 rfl ?_
  refine AW_iconst (v := 0) dX12_restore_1 (by decide) ?_
  refine AW_put (ci := 11) (k0 := 0) (C := RX12) (T := TX12) (N := 31) (ty0 := tyX12) dX12_restore_2 rfl (gT_u tU_X12) tyX12_ok nmX12 (by decide) (List.mem_cons_of_mem _ tF_X12_47) (Or.inl rfl) rfl rfl h (fun A5 _ h => ?_)
  refine AW_iload_n dX12_restore_5 rfl ?_
  refine AW_i2l dX12_restore_6 ?_
  refine AW_lconst (v := 0) dX12_restore_7 (by decide) ?_
  refine AW_lconst (v := 1) dX12_restore_8 (by decide) ?_
  refine AW_callSi (y := yX12_in) (cc := cX12_in) (n := 6) (d := 0) (mc := 0) (ms := 0) (np := 3) (ret := (some .boolean)) (As := [.long x1.toInt64, .long (0 : Int64), .long (1 : Int64)]) (st := []) dX12_restore_9 gT_s tM_X12_57 tS_X12_in tIni_X12 tY_X12_in (by decide +kernel) ⟨by decide, by decide⟩ ⟨by decide, by decide⟩ (Nat.le_of_ble_eq_true rfl) rfl h (fun q hq => c_X12_in N _ _ _ _ q hq) (fun q6 _ h => ?_)
  refine AW_if_ne (tgt := 18) dX12_restore_12 (by decide) h (fun _ h => ?_) (fun _ h => ?_)
  · refine AW_aload_n dX12_restore_18 rfl ?_
    refine AW_getR (ci := 11) (k0 := 27) (C := RX12) (T := TX12) (N := 31) dX12_restore_19 rfl (gT_u tU_X12) (by decide) (List.mem_cons_of_mem _ tF_X12_37) h (fun v7 _ h => ?_)
    refine AW_iload_n dX12_restore_22 rfl ?_
    refine AW_zald dX12_restore_23 h (fun v8 _ h => ?_)
    refine AW_if_ne (tgt := 30) dX12_restore_24 (by decide) h (fun _ h => ?_) (fun _ h => ?_)
    · refine AW_iconst (v := 0) dX12_restore_30 (by decide) ?_
      refine AW_istore_n (ls' := [some (va_rf x0), some (.int x1), some (.int (0 : Int32))]) dX12_restore_31 (c1_i rfl) (by decide) rfl ?_
      exact (t_X12_restore_32 N N _ _ _ _ _ h)
    · refine AW_ldc (v := -1000002) dX12_restore_27 (List.mem_cons_of_mem _ tK_X12_199) ?_
      exact AW_iret dX12_restore_29 rfl ⟨Nat.zero_le _, Nat.zero_le _⟩ h
  · refine AW_ldc (v := -1000001) dX12_restore_15 (List.mem_cons_of_mem _ tK_X12_67) ?_
    exact AW_iret dX12_restore_17 rfl ⟨Nat.zero_le _, Nat.zero_le _⟩ h
def f_X12_restore (N : Nat) (A : hP) (x0 : Option Nat) (x1 : Int32) : Option (Int32 × hP) := f_X12_restore_0 N A x0 x1
set_option maxRecDepth 20000 in
theorem c_X12_restore {l : Launch} (N : Nat) (A : hP) (x0 : Option Nat) (x1 : Int32) (res : Int32 × hP) (h : f_X12_restore N A x0 x1 = some res) : Ct l mX12_restore 1 0 0 A [va_rf x0, .int x1] (gi res) := Ct.of (lv := [(0, va_rf x0), (1, .int x1)]) (ls := [some (va_rf x0), some (.int x1), none]) (by decide) (by simp [lv_args, g_cat_rf, cat_i, cat_l]) rfl (by simp [g_cat_rf, cat_i, cat_l]) (fun G => (t_X12_restore_0 N A x0 x1 res h))
abbrev mX12_kind : gM := gMk yX12_kind cX12_kind 2 (some .int)
def f_X12_kind_23 (N : Nat) (A : hP) (s0 : Int32) : Option (Int32 × hP) := some (s0, A)
set_option maxRecDepth 20000 in
set_option maxHeartbeats 4000000 in
theorem t_X12_kind_23 {l : Launch} {G : gS} (N : Nat) (A : hP) (s0 : Int32) (res : Int32 × hP) (h : f_X12_kind_23 N A s0 = some res) : AW l mX12_kind (g_rm 2 0 0) G (g_Qf G (gi res) 0 0) A 0 0 23 [none, none] [.int s0] := by
  unfold f_X12_kind_23 at h
  exact AW_iret dX12_kind_23 rfl ⟨Nat.zero_le _, Nat.zero_le _⟩ h
def f_X12_kind_0 (N : Nat) (A : hP) (x0 : Option Nat) (x1 : Int32) : Option (Int32 × hP) := (oP A x0 11 0 (.int (0 : Int32))).bind fun A1 => (oCk A1 x0 11).bind fun _ => (f_X12_isThing N A1 x0 x1).bind fun q2 => if q2.1 = (0) then (f_X12_kind_23 N q2.2 (-1000001 : Int32)) else ((oCk q2.2 x0 11).bind fun _ => (f_X12_kindOf N q2.2 x0 x1).bind fun q3 => f_X12_kind_23 N q3.2 q3.1)
set_option maxRecDepth 20000 in
set_option maxHeartbeats 4000000 in
theorem t_X12_kind_0 {l : Launch} {G : gS} (N : Nat) (A : hP) (x0 : Option Nat) (x1 : Int32) (res : Int32 × hP) (h : f_X12_kind_0 N A x0 x1 = some res) : AW l mX12_kind (g_rm 2 0 0) G (g_Qf G (gi res) 0 0) A 0 0 0 [some (va_rf x0), some (.int x1)] [] := by
  unfold f_X12_kind_0 at h
  refine AW_aload_n dX12_kind_0 rfl ?_
  refine AW_iconst (v := 0) dX12_kind_1 (by decide) ?_
  refine AW_put (ci := 11) (k0 := 0) (C := RX12) (T := TX12) (N := 31) (ty0 := tyX12) dX12_kind_2 rfl (gT_u tU_X12) tyX12_ok nmX12 (by decide) (List.mem_cons_of_mem _ tF_X12_47) (Or.inl rfl) rfl rfl h (fun A1 _ h => ?_)
  refine AW_aload_n dX12_kind_5 rfl ?_
  refine AW_iload_n dX12_kind_6 rfl ?_
  refine AW_callVi (y := yX12_isThing) (cc := cX12_isThing) (n := 2) (d := 1) (mc := 0) (ms := 0) (np := 1) (ret := (some .boolean)) (As := [.int x1]) (st := []) (ci := 11) dX12_kind_7 gT_s rfl tM_X12_214 tI_X12_isThing selp_X12_isThing tIni_X12 tY_X12_isThing (by decide +kernel) ⟨by decide, by decide⟩ ⟨by decide, by decide⟩ (Nat.le_of_ble_eq_true rfl) rfl h (fun q hq => c_X12_isThing N _ _ _ q hq) (fun q2 _ h => ?_)
  refine AW_if_eq (tgt := 21) dX12_kind_10 (by decide) h (fun _ h => ?_) (fun _ h => ?_)
  · refine AW_ldc (v := -1000001) dX12_kind_21 (List.mem_cons_of_mem _ tK_X12_67) ?_
    exact AW_fewer (fw_d (fw_d fw_n)) (t_X12_kind_23 N _ _ _ h)
  · refine AW_aload_n dX12_kind_13 rfl ?_
    refine AW_iload_n dX12_kind_14 rfl ?_
    refine AW_callVi (y := yX12_kindOf) (cc := cX12_kindOf) (n := 2) (d := 0) (mc := 0) (ms := 0) (np := 1) (ret := (some .int)) (As := [.int x1]) (st := []) (ci := 11) dX12_kind_15 gT_s rfl tM_X12_183 tI_X12_kindOf selp_X12_kindOf tIni_X12 tY_X12_kindOf (by decide +kernel) ⟨by decide, by decide⟩ ⟨by decide, by decide⟩ (Nat.le_of_ble_eq_true rfl) rfl h (fun q hq => c_X12_kindOf N _ _ _ q hq) (fun q3 _ h => ?_)
    refine AW_goto (tgt := 23) dX12_kind_18 (by decide) ?_
    exact AW_fewer (fw_d (fw_d fw_n)) (t_X12_kind_23 N _ _ _ h)
def f_X12_kind (N : Nat) (A : hP) (x0 : Option Nat) (x1 : Int32) : Option (Int32 × hP) := f_X12_kind_0 N A x0 x1
set_option maxRecDepth 20000 in
theorem c_X12_kind {l : Launch} (N : Nat) (A : hP) (x0 : Option Nat) (x1 : Int32) (res : Int32 × hP) (h : f_X12_kind N A x0 x1 = some res) : Ct l mX12_kind 2 0 0 A [va_rf x0, .int x1] (gi res) := Ct.of (lv := [(0, va_rf x0), (1, .int x1)]) (ls := [some (va_rf x0), some (.int x1)]) (by decide) (by simp [lv_args, g_cat_rf, cat_i, cat_l]) rfl (by simp [g_cat_rf, cat_i, cat_l]) (fun G => (t_X12_kind_0 N A x0 x1 res h))
abbrev mX12_isOf : gM := gMk yX12_isOf cX12_isOf 2 (some .boolean)
def f_X12_isOf_34 (N : Nat) (A : hP) (s0 : Int32) : Option (Int32 × hP) := if s0 = 0 ∨ s0 = 1 then some (s0, A) else none
set_option maxRecDepth 20000 in
set_option maxHeartbeats 4000000 in
theorem t_X12_isOf_34 {l : Launch} {G : gS} (N : Nat) (A : hP) (s0 : Int32) (res : Int32 × hP) (h : f_X12_isOf_34 N A s0 = some res) : AW l mX12_isOf (g_rm 0 0 0) G (g_Qf G (gi res) 0 0) A 0 0 34 [none, none] [.int s0] := by
  unfold f_X12_isOf_34 at h
  exact AW_zret dX12_isOf_34 rfl ⟨Nat.zero_le _, Nat.zero_le _⟩ h
def f_X12_isOf_29 (N : Nat) (A : hP) : Option (Int32 × hP) := f_X12_isOf_34 N A (1 : Int32)
set_option maxRecDepth 20000 in
set_option maxHeartbeats 4000000 in
theorem t_X12_isOf_29 {l : Launch} {G : gS} (N : Nat) (A : hP) (res : Int32 × hP) (h : f_X12_isOf_29 N A  = some res) : AW l mX12_isOf (g_rm 0 0 0) G (g_Qf G (gi res) 0 0) A 0 0 29 [none, none] [] := by
  unfold f_X12_isOf_29 at h
  refine AW_iconst (v := 1) dX12_isOf_29 (by decide) ?_
  refine AW_goto (tgt := 34) dX12_isOf_30 (by decide) ?_
  exact (t_X12_isOf_34 N _ _ _ h)
def f_X12_isOf_33 (N : Nat) (A : hP) : Option (Int32 × hP) := f_X12_isOf_34 N A (0 : Int32)
set_option maxRecDepth 20000 in
set_option maxHeartbeats 4000000 in
theorem t_X12_isOf_33 {l : Launch} {G : gS} (N : Nat) (A : hP) (res : Int32 × hP) (h : f_X12_isOf_33 N A  = some res) : AW l mX12_isOf (g_rm 0 0 0) G (g_Qf G (gi res) 0 0) A 0 0 33 [none, none] [] := by
  unfold f_X12_isOf_33 at h
  refine AW_iconst (v := 0) dX12_isOf_33 (by decide) ?_
  exact (t_X12_isOf_34 N _ _ _ h)
def f_X12_isOf_19 (N : Nat) (A : hP) (x0 : Int32) (x1 : Int32) : Option (Int32 × hP) := if x1 = (4 : Int32) then (if x0 = (5 : Int32) then (f_X12_isOf_29 N A) else (f_X12_isOf_33 N A)) else (f_X12_isOf_33 N A)
set_option maxRecDepth 20000 in
set_option maxHeartbeats 4000000 in
theorem t_X12_isOf_19 {l : Launch} {G : gS} (N : Nat) (A : hP) (x0 : Int32) (x1 : Int32) (res : Int32 × hP) (h : f_X12_isOf_19 N A x0 x1 = some res) : AW l mX12_isOf (g_rm 0 0 0) G (g_Qf G (gi res) 0 0) A 0 0 19 [some (.int x0), some (.int x1)] [] := by
  unfold f_X12_isOf_19 at h
  refine AW_iload_n dX12_isOf_19 rfl ?_
  refine AW_iconst (v := 4) dX12_isOf_20 (by decide) ?_
  refine AW_icmp_ne (tgt := 33) dX12_isOf_21 (by decide) h (fun _ h => ?_) (fun _ h => ?_)
  · exact AW_fewer (fw_d (fw_d fw_n)) (t_X12_isOf_33 N _ _ h)
  · refine AW_iload_n dX12_isOf_24 rfl ?_
    refine AW_iconst (v := 5) dX12_isOf_25 (by decide) ?_
    refine AW_icmp_ne (tgt := 33) dX12_isOf_26 (by decide) h (fun _ h => ?_) (fun _ h => ?_)
    · exact AW_fewer (fw_d (fw_d fw_n)) (t_X12_isOf_33 N _ _ h)
    · exact AW_fewer (fw_d (fw_d fw_n)) (t_X12_isOf_29 N _ _ h)
def f_X12_isOf_0 (N : Nat) (A : hP) (x0 : Int32) (x1 : Int32) : Option (Int32 × hP) := if x1 = (0) then (f_X12_isOf_29 N A) else (if x0 = x1 then (f_X12_isOf_29 N A) else (if x1 = (1 : Int32) then (if x0 < (4 : Int32) then (f_X12_isOf_29 N A) else (f_X12_isOf_19 N A x0 x1)) else (f_X12_isOf_19 N A x0 x1)))
set_option maxRecDepth 20000 in
set_option maxHeartbeats 4000000 in
theorem t_X12_isOf_0 {l : Launch} {G : gS} (N : Nat) (A : hP) (x0 : Int32) (x1 : Int32) (res : Int32 × hP) (h : f_X12_isOf_0 N A x0 x1 = some res) : AW l mX12_isOf (g_rm 0 0 0) G (g_Qf G (gi res) 0 0) A 0 0 0 [some (.int x0), some (.int x1)] [] := by
  unfold f_X12_isOf_0 at h
  refine AW_iload_n dX12_isOf_0 rfl ?_
  refine AW_if_eq (tgt := 29) dX12_isOf_1 (by decide) h (fun _ h => ?_) (fun _ h => ?_)
  · exact AW_fewer (fw_d (fw_d fw_n)) (t_X12_isOf_29 N _ _ h)
  · refine AW_iload_n dX12_isOf_4 rfl ?_
    refine AW_iload_n dX12_isOf_5 rfl ?_
    refine AW_icmp_eq (tgt := 29) dX12_isOf_6 (by decide) h (fun _ h => ?_) (fun _ h => ?_)
    · exact AW_fewer (fw_d (fw_d fw_n)) (t_X12_isOf_29 N _ _ h)
    · refine AW_iload_n dX12_isOf_9 rfl ?_
      refine AW_iconst (v := 1) dX12_isOf_10 (by decide) ?_
      refine AW_icmp_ne (tgt := 19) dX12_isOf_11 (by decide) h (fun _ h => ?_) (fun _ h => ?_)
      · exact (t_X12_isOf_19 N _ _ _ _ h)
      · refine AW_iload_n dX12_isOf_14 rfl ?_
        refine AW_iconst (v := 4) dX12_isOf_15 (by decide) ?_
        refine AW_icmp_lt (tgt := 29) dX12_isOf_16 (by decide) h (fun _ h => ?_) (fun _ h => ?_)
        · exact AW_fewer (fw_d (fw_d fw_n)) (t_X12_isOf_29 N _ _ h)
        · exact (t_X12_isOf_19 N _ _ _ _ h)
def f_X12_isOf (N : Nat) (A : hP) (x0 : Int32) (x1 : Int32) : Option (Int32 × hP) := f_X12_isOf_0 N A x0 x1
set_option maxRecDepth 20000 in
theorem c_X12_isOf {l : Launch} (N : Nat) (A : hP) (x0 : Int32) (x1 : Int32) (res : Int32 × hP) (h : f_X12_isOf N A x0 x1 = some res) : Ct l mX12_isOf 0 0 0 A [.int x0, .int x1] (gi res) := Ct.of (lv := [(0, .int x0), (1, .int x1)]) (ls := [some (.int x0), some (.int x1)]) (by decide) (by simp [lv_args, g_cat_rf, cat_i, cat_l]) rfl (by simp [g_cat_rf, cat_i, cat_l]) (fun G => (t_X12_isOf_0 N A x0 x1 res h))
abbrev mX12_as : gM := gMk yX12_as cX12_as 3 (some .int)
def f_X12_as_25 (N : Nat) (A : hP) : Option (Int32 × hP) := some ((-1000001 : Int32), A)
set_option maxRecDepth 20000 in
set_option maxHeartbeats 4000000 in
theorem t_X12_as_25 {l : Launch} {G : gS} (N : Nat) (A : hP) (res : Int32 × hP) (h : f_X12_as_25 N A  = some res) : AW l mX12_as (g_rm 2 0 0) G (g_Qf G (gi res) 0 0) A 0 0 25 [none, none, none] [] := by
  unfold f_X12_as_25 at h
  refine AW_ldc (v := -1000001) dX12_as_25 (List.mem_cons_of_mem _ tK_X12_67) ?_
  exact AW_iret dX12_as_27 rfl ⟨Nat.zero_le _, Nat.zero_le _⟩ h
def f_X12_as_54 (N : Nat) (A : hP) (s0 : Int32) : Option (Int32 × hP) := some (s0, A)
set_option maxRecDepth 20000 in
set_option maxHeartbeats 4000000 in
theorem t_X12_as_54 {l : Launch} {G : gS} (N : Nat) (A : hP) (s0 : Int32) (res : Int32 × hP) (h : f_X12_as_54 N A s0 = some res) : AW l mX12_as (g_rm 2 0 0) G (g_Qf G (gi res) 0 0) A 0 0 54 [none, none, none] [.int s0] := by
  unfold f_X12_as_54 at h
  exact AW_iret dX12_as_54 rfl ⟨Nat.zero_le _, Nat.zero_le _⟩ h
def f_X12_as_0 (N : Nat) (A : hP) (x0 : Option Nat) (x1 : Int32) (x2 : Int32) : Option (Int32 × hP) := (oP A x0 11 0 (.int (0 : Int32))).bind fun A1 => (oCk A1 x0 11).bind fun _ => (f_X12_isThing N A1 x0 x1).bind fun q2 => if q2.1 = (0) then (f_X12_as_25 N q2.2) else ((f_X12_in N q2.2 x2.toInt64 (0 : Int64) (5 : Int64)).bind fun q3 => if q3.1 = (0) then (f_X12_as_25 N q3.2) else ((oP q3.2 x0 11 1 (.int (0 : Int32))).bind fun A4 => (oCk A4 x0 11).bind fun _ => (f_X12_kindOf N A4 x0 x1).bind fun q5 => (f_X12_isOf N q5.2 q5.1 x2).bind fun q6 => if q6.1 = (0) then ((oCk q6.2 x0 11).bind fun _ => (f_X12_finding N q6.2 x0 (3 : Int32)).bind fun q7 => f_X12_as_54 N q7.2 q7.1) else (f_X12_as_54 N q6.2 x1)))
set_option maxRecDepth 20000 in
set_option maxHeartbeats 4000000 in
theorem t_X12_as_0 {l : Launch} {G : gS} (N : Nat) (A : hP) (x0 : Option Nat) (x1 : Int32) (x2 : Int32) (res : Int32 × hP) (h : f_X12_as_0 N A x0 x1 x2 = some res) : AW l mX12_as (g_rm 2 0 0) G (g_Qf G (gi res) 0 0) A 0 0 0 [some (va_rf x0), some (.int x1), some (.int x2)] [] := by
  unfold f_X12_as_0 at h
  refine AW_aload_n dX12_as_0 rfl ?_
  refine AW_iconst (v := 0) dX12_as_1 (by decide) ?_
  refine AW_put (ci := 11) (k0 := 0) (C := RX12) (T := TX12) (N := 31) (ty0 := tyX12) dX12_as_2 rfl (gT_u tU_X12) tyX12_ok nmX12 (by decide) (List.mem_cons_of_mem _ tF_X12_47) (Or.inl rfl) rfl rfl h (fun A1 _ h => ?_)
  refine AW_aload_n dX12_as_5 rfl ?_
  refine AW_iload_n dX12_as_6 rfl ?_
  refine AW_callVi (y := yX12_isThing) (cc := cX12_isThing) (n := 2) (d := 1) (mc := 0) (ms := 0) (np := 1) (ret := (some .boolean)) (As := [.int x1]) (st := []) (ci := 11) dX12_as_7 gT_s rfl tM_X12_214 tI_X12_isThing selp_X12_isThing tIni_X12 tY_X12_isThing (by decide +kernel) ⟨by decide, by decide⟩ ⟨by decide, by decide⟩ (Nat.le_of_ble_eq_true rfl) rfl h (fun q hq => c_X12_isThing N _ _ _ q hq) (fun q2 _ h => ?_)
  refine AW_if_eq (tgt := 25) dX12_as_10 (by decide) h (fun _ h => ?_) (fun _ h => ?_)
  · exact AW_fewer (fw_d (fw_d (fw_d fw_n))) (t_X12_as_25 N _ _ h)
  · refine AW_iload_n dX12_as_13 rfl ?_
    refine AW_i2l dX12_as_14 ?_
    refine AW_lconst (v := 0) dX12_as_15 (by decide) ?_
    refine AW_ldc2 (v := 5) dX12_as_16 (List.mem_cons_of_mem _ tL_X12_264) ?_
    refine AW_callSi (y := yX12_in) (cc := cX12_in) (n := 6) (d := 0) (mc := 0) (ms := 0) (np := 3) (ret := (some .boolean)) (As := [.long x2.toInt64, .long (0 : Int64), .long (5 : Int64)]) (st := []) dX12_as_19 gT_s tM_X12_57 tS_X12_in tIni_X12 tY_X12_in (by decide +kernel) ⟨by decide, by decide⟩ ⟨by decide, by decide⟩ (Nat.le_of_ble_eq_true rfl) rfl h (fun q hq => c_X12_in N _ _ _ _ q hq) (fun q3 _ h => ?_)
    refine AW_if_ne (tgt := 28) dX12_as_22 (by decide) h (fun _ h => ?_) (fun _ h => ?_)
    · refine AW_aload_n dX12_as_28 rfl ?_
      refine AW_iconst (v := 0) dX12_as_29 (by decide) ?_
      refine AW_put (ci := 11) (k0 := 1) (C := RX12) (T := TX12) (N := 31) (ty0 := tyX12) dX12_as_30 rfl (gT_u tU_X12) tyX12_ok nmX12 (by decide) (List.mem_cons_of_mem _ tF_X12_51) (Or.inl rfl) rfl rfl h (fun A4 _ h => ?_)
      refine AW_aload_n dX12_as_33 rfl ?_
      refine AW_iload_n dX12_as_34 rfl ?_
      refine AW_callVi (y := yX12_kindOf) (cc := cX12_kindOf) (n := 2) (d := 0) (mc := 0) (ms := 0) (np := 1) (ret := (some .int)) (As := [.int x1]) (st := []) (ci := 11) dX12_as_35 gT_s rfl tM_X12_183 tI_X12_kindOf selp_X12_kindOf tIni_X12 tY_X12_kindOf (by decide +kernel) ⟨by decide, by decide⟩ ⟨by decide, by decide⟩ (Nat.le_of_ble_eq_true rfl) rfl h (fun q hq => c_X12_kindOf N _ _ _ q hq) (fun q5 _ h => ?_)
      refine AW_iload_n dX12_as_38 rfl ?_
      refine AW_callSi (y := yX12_isOf) (cc := cX12_isOf) (n := 2) (d := 0) (mc := 0) (ms := 0) (np := 2) (ret := (some .boolean)) (As := [.int q5.1, .int x2]) (st := []) dX12_as_39 gT_s tM_X12_266 tS_X12_isOf tIni_X12 tY_X12_isOf (by decide +kernel) ⟨by decide, by decide⟩ ⟨by decide, by decide⟩ (Nat.le_of_ble_eq_true rfl) rfl h (fun q hq => c_X12_isOf N _ _ _ q hq) (fun q6 _ h => ?_)
      refine AW_if_eq (tgt := 49) dX12_as_42 (by decide) h (fun _ h => ?_) (fun _ h => ?_)
      · refine AW_aload_n dX12_as_49 rfl ?_
        refine AW_iconst (v := 3) dX12_as_50 (by decide) ?_
        refine AW_callVi (y := yX12_finding) (cc := cX12_finding) (n := 2) (d := 0) (mc := 0) (ms := 0) (np := 1) (ret := (some .int)) (As := [.int (3 : Int32)]) (st := []) (ci := 11) dX12_as_51 gT_s rfl tM_X12_68 tI_X12_finding selp_X12_finding tIni_X12 tY_X12_finding (by decide +kernel) ⟨by decide, by decide⟩ ⟨by decide, by decide⟩ (Nat.le_of_ble_eq_true rfl) rfl h (fun q hq => c_X12_finding N _ _ _ q hq) (fun q7 _ h => ?_)
        exact AW_fewer (fw_d (fw_d (fw_d fw_n))) (t_X12_as_54 N _ _ _ h)
      · refine AW_iload_n dX12_as_45 rfl ?_
        refine AW_goto (tgt := 54) dX12_as_46 (by decide) ?_
        exact AW_fewer (fw_d (fw_d (fw_d fw_n))) (t_X12_as_54 N _ _ _ h)
    · exact AW_fewer (fw_d (fw_d (fw_d fw_n))) (t_X12_as_25 N _ _ h)
def f_X12_as (N : Nat) (A : hP) (x0 : Option Nat) (x1 : Int32) (x2 : Int32) : Option (Int32 × hP) := f_X12_as_0 N A x0 x1 x2
set_option maxRecDepth 20000 in
theorem c_X12_as {l : Launch} (N : Nat) (A : hP) (x0 : Option Nat) (x1 : Int32) (x2 : Int32) (res : Int32 × hP) (h : f_X12_as N A x0 x1 x2 = some res) : Ct l mX12_as 2 0 0 A [va_rf x0, .int x1, .int x2] (gi res) := Ct.of (lv := [(0, va_rf x0), (1, .int x1), (2, .int x2)]) (ls := [some (va_rf x0), some (.int x1), some (.int x2)]) (by decide) (by simp [lv_args, g_cat_rf, cat_i, cat_l]) rfl (by simp [g_cat_rf, cat_i, cat_l]) (fun G => (t_X12_as_0 N A x0 x1 x2 res h))
abbrev mX12_began : gM := gMk yX12_began cX12_began 2 none
def f_X12_began_29 (N : Nat) (A : hP) : Option (Unit × hP) := some ((), A)
set_option maxRecDepth 20000 in
set_option maxHeartbeats 4000000 in
theorem t_X12_began_29 {l : Launch} {G : gS} (N : Nat) (A : hP) (res : Unit × hP) (h : f_X12_began_29 N A  = some res) : AW l mX12_began (g_rm 0 0 0) G (g_Qf G (gu res) 0 0) A 0 0 29 [none, none] [] := by
  unfold f_X12_began_29 at h
  exact AW_vret dX12_began_29 rfl ⟨Nat.zero_le _, Nat.zero_le _⟩ h
def f_X12_began_0 (N : Nat) (A : hP) (x0 : Option Nat) (x1 : Int32) : Option (Unit × hP) := (oI A x0 11 30).bind fun v1 => if (16 : Int32) ≤ v1 then (f_X12_began_29 N A) else ((oR A x0 11 29).bind fun v2 => (oI A x0 11 30).bind fun v3 => (oS A v2 0 v3 x1).bind fun A4 => (oI A4 x0 11 30).bind fun v5 => (oP A4 x0 11 30 (.int (v5 + (1 : Int32)))).bind fun A6 => f_X12_began_29 N A6)
set_option maxRecDepth 20000 in
set_option maxHeartbeats 4000000 in
theorem t_X12_began_0 {l : Launch} {G : gS} (N : Nat) (A : hP) (x0 : Option Nat) (x1 : Int32) (res : Unit × hP) (h : f_X12_began_0 N A x0 x1 = some res) : AW l mX12_began (g_rm 0 0 0) G (g_Qf G (gu res) 0 0) A 0 0 0 [some (va_rf x0), some (.int x1)] [] := by
  unfold f_X12_began_0 at h
  refine AW_aload_n dX12_began_0 rfl ?_
  refine AW_getI (ci := 11) (k0 := 30) (C := RX12) (T := TX12) (N := 31) dX12_began_1 rfl (gT_u tU_X12) (by decide) (List.mem_cons_of_mem _ tF_X12_270) h (fun v1 _ h => ?_)
  refine AW_bipush (v := 16) dX12_began_4 (by decide) ?_
  refine AW_icmp_ge (tgt := 29) dX12_began_6 (by decide) h (fun _ h => ?_) (fun _ h => ?_)
  · exact AW_fewer (fw_d (fw_d fw_n)) (t_X12_began_29 N _ _ h)
  · refine AW_aload_n dX12_began_9 rfl ?_
    refine AW_getR (ci := 11) (k0 := 29) (C := RX12) (T := TX12) (N := 31) dX12_began_10 rfl (gT_u tU_X12) (by decide) (List.mem_cons_of_mem _ tF_X12_44) h (fun v2 _ h => ?_)
    refine AW_aload_n dX12_began_13 rfl ?_
    refine AW_getI (ci := 11) (k0 := 30) (C := RX12) (T := TX12) (N := 31) dX12_began_14 rfl (gT_u tU_X12) (by decide) (List.mem_cons_of_mem _ tF_X12_270) h (fun v3 _ h => ?_)
    refine AW_iload_n dX12_began_17 rfl ?_
    refine AW_iast dX12_began_18 h (fun A4 _ h => ?_)
    refine AW_aload_n dX12_began_19 rfl ?_
    refine AW_dup dX12_began_20 (g_cat_rf _) ?_
    refine AW_getI (ci := 11) (k0 := 30) (C := RX12) (T := TX12) (N := 31) dX12_began_21 rfl (gT_u tU_X12) (by decide) (List.mem_cons_of_mem _ tF_X12_270) h (fun v5 _ h => ?_)
    refine AW_iconst (v := 1) dX12_began_24 (by decide) ?_
    refine AW_iadd dX12_began_25 ?_
    refine AW_put (ci := 11) (k0 := 30) (C := RX12) (T := TX12) (N := 31) (ty0 := tyX12) dX12_began_26 rfl (gT_u tU_X12) tyX12_ok nmX12 (by decide) (List.mem_cons_of_mem _ tF_X12_270) (Or.inl rfl) rfl rfl h (fun A6 _ h => ?_)
    exact AW_fewer (fw_d (fw_d fw_n)) (t_X12_began_29 N _ _ h)
def f_X12_began (N : Nat) (A : hP) (x0 : Option Nat) (x1 : Int32) : Option (Unit × hP) := f_X12_began_0 N A x0 x1
set_option maxRecDepth 20000 in
theorem c_X12_began {l : Launch} (N : Nat) (A : hP) (x0 : Option Nat) (x1 : Int32) (res : Unit × hP) (h : f_X12_began N A x0 x1 = some res) : Ct l mX12_began 0 0 0 A [va_rf x0, .int x1] (gu res) := Ct.of (lv := [(0, va_rf x0), (1, .int x1)]) (ls := [some (va_rf x0), some (.int x1)]) (by decide) (by simp [lv_args, g_cat_rf, cat_i, cat_l]) rfl (by simp [g_cat_rf, cat_i, cat_l]) (fun G => (t_X12_began_0 N A x0 x1 res h))
abbrev mX12_plainSize : gM := gMk yX12_plainSize cX12_plainSize 2 (some .int)
def f_X12_plainSize_0 (N : Nat) (A : hP) (x0 : Option Nat) (x1 : Int32) : Option (Int32 × hP) := (oCk A x0 11).bind fun _ => (f_X12_began N A x0 (10 : Int32)).bind fun q1 => (oR q1.2 x0 11 5).bind fun v2 => (oA q1.2 v2 0 (((5 : Int32) + ((2 : Int32) * x1)) + (1 : Int32))).bind fun v3 => some (v3, q1.2)
set_option maxRecDepth 20000 in
set_option maxHeartbeats 4000000 in
theorem t_X12_plainSize_0 {l : Launch} {G : gS} (N : Nat) (A : hP) (x0 : Option Nat) (x1 : Int32) (res : Int32 × hP) (h : f_X12_plainSize_0 N A x0 x1 = some res) : AW l mX12_plainSize (g_rm 1 0 0) G (g_Qf G (gi res) 0 0) A 0 0 0 [some (va_rf x0), some (.int x1)] [] := by
  unfold f_X12_plainSize_0 at h
  refine AW_aload_n dX12_plainSize_0 rfl ?_
  refine AW_bipush (v := 10) dX12_plainSize_1 (by decide) ?_
  refine AW_callVu (y := yX12_began) (cc := cX12_began) (n := 2) (d := 0) (mc := 0) (ms := 0) (np := 1) (ret := none) (As := [.int (10 : Int32)]) (st := []) (ci := 11) dX12_plainSize_3 gT_s rfl tM_X12_273 tI_X12_began selp_X12_began tIni_X12 tY_X12_began (by decide +kernel) ⟨by decide, by decide⟩ ⟨by decide, by decide⟩ (Nat.le_of_ble_eq_true rfl) rfl h (fun q hq => c_X12_began N _ _ _ q hq) (fun q1 _ h => ?_)
  refine AW_aload_n dX12_plainSize_6 rfl ?_
  refine AW_getR (ci := 11) (k0 := 5) (C := RX12) (T := TX12) (N := 31) dX12_plainSize_7 rfl (gT_u tU_X12) (by decide) (List.mem_cons_of_mem _ tF_X12_19) h (fun v2 _ h => ?_)
  refine AW_iconst (v := 5) dX12_plainSize_10 (by decide) ?_
  refine AW_iconst (v := 2) dX12_plainSize_11 (by decide) ?_
  refine AW_iload_n dX12_plainSize_12 rfl ?_
  refine AW_imul dX12_plainSize_13 ?_
  refine AW_iadd dX12_plainSize_14 ?_
  refine AW_iconst (v := 1) dX12_plainSize_15 (by decide) ?_
  refine AW_iadd dX12_plainSize_16 ?_
  refine AW_iald dX12_plainSize_17 h (fun v3 _ h => ?_)
  exact AW_iret dX12_plainSize_18 rfl ⟨Nat.zero_le _, Nat.zero_le _⟩ h
def f_X12_plainSize (N : Nat) (A : hP) (x0 : Option Nat) (x1 : Int32) : Option (Int32 × hP) := f_X12_plainSize_0 N A x0 x1
set_option maxRecDepth 20000 in
theorem c_X12_plainSize {l : Launch} (N : Nat) (A : hP) (x0 : Option Nat) (x1 : Int32) (res : Int32 × hP) (h : f_X12_plainSize N A x0 x1 = some res) : Ct l mX12_plainSize 1 0 0 A [va_rf x0, .int x1] (gi res) := Ct.of (lv := [(0, va_rf x0), (1, .int x1)]) (ls := [some (va_rf x0), some (.int x1)]) (by decide) (by simp [lv_args, g_cat_rf, cat_i, cat_l]) rfl (by simp [g_cat_rf, cat_i, cat_l]) (fun G => (t_X12_plainSize_0 N A x0 x1 res h))
abbrev mX12_stoneSize : gM := gMk yX12_stoneSize cX12_stoneSize 3 (some .int)
def f_X12_stoneSize_46 (N : Nat) (A : hP) (s0 : Int32) : Option (Int32 × hP) := some (s0, A)
set_option maxRecDepth 20000 in
set_option maxHeartbeats 4000000 in
theorem t_X12_stoneSize_46 {l : Launch} {G : gS} (N : Nat) (A : hP) (s0 : Int32) (res : Int32 × hP) (h : f_X12_stoneSize_46 N A s0 = some res) : AW l mX12_stoneSize (g_rm 2 0 0) G (g_Qf G (gi res) 0 0) A 0 0 46 [none, none, none] [.int s0] := by
  unfold f_X12_stoneSize_46 at h
  exact AW_iret dX12_stoneSize_46 rfl ⟨Nat.zero_le _, Nat.zero_le _⟩ h
def f_X12_stoneSize_15 (N : Nat) (A : hP) (x0 : Option Nat) (x1 : Int32) : Option (Int32 × hP) := (oCk A x0 11).bind fun _ => (f_X12_began N A x0 (13 : Int32)).bind fun q1 => (oCk q1.2 x0 11).bind fun _ => (f_X12_plainSize N q1.2 x0 x1).bind fun q2 => (oCk q2.2 x0 11).bind fun _ => (f_X12_kindOf N q2.2 x0 x1).bind fun q3 => if q3.1 = (5 : Int32) then (f_X12_stoneSize_46 N q3.2 ((2 : Int32) * (q2.1 - (100 : Int32)))) else (f_X12_stoneSize_46 N q3.2 (q2.1 - (100 : Int32)))
set_option maxRecDepth 20000 in
set_option maxHeartbeats 4000000 in
theorem t_X12_stoneSize_15 {l : Launch} {G : gS} (N : Nat) (A : hP) (x0 : Option Nat) (x1 : Int32) (res : Int32 × hP) (h : f_X12_stoneSize_15 N A x0 x1 = some res) : AW l mX12_stoneSize (g_rm 2 0 0) G (g_Qf G (gi res) 0 0) A 0 0 15 [some (va_rf x0), some (.int x1), none] [] := by
  unfold f_X12_stoneSize_15 at h
  refine AW_aload_n dX12_stoneSize_15 rfl ?_
  refine AW_bipush (v := 13) dX12_stoneSize_16 (by decide) ?_
  refine AW_callVu (y := yX12_began) (cc := cX12_began) (n := 2) (d := 0) (mc := 0) (ms := 0) (np := 1) (ret := none) (As := [.int (13 : Int32)]) (st := []) (ci := 11) dX12_stoneSize_18 gT_s rfl tM_X12_273 tI_X12_began selp_X12_began tIni_X12 tY_X12_began (by decide +kernel) ⟨by decide, by decide⟩ ⟨by decide, by decide⟩ (Nat.le_of_ble_eq_true rfl) rfl h (fun q hq => c_X12_began N _ _ _ q hq) (fun q1 _ h => ?_)
  refine AW_aload_n dX12_stoneSize_21 rfl ?_
  refine AW_iload_n dX12_stoneSize_22 rfl ?_
  refine AW_callVi (y := yX12_plainSize) (cc := cX12_plainSize) (n := 2) (d := 1) (mc := 0) (ms := 0) (np := 1) (ret := (some .int)) (As := [.int x1]) (st := []) (ci := 11) dX12_stoneSize_23 gT_s rfl tM_X12_276 tI_X12_plainSize selp_X12_plainSize tIni_X12 tY_X12_plainSize (by decide +kernel) ⟨by decide, by decide⟩ ⟨by decide, by decide⟩ (Nat.le_of_ble_eq_true rfl) rfl h (fun q hq => c_X12_plainSize N _ _ _ q hq) (fun q2 _ h => ?_)
  refine AW_bipush (v := 100) dX12_stoneSize_26 (by decide) ?_
  refine AW_isub dX12_stoneSize_28 ?_
  refine AW_istore_n (ls' := [some (va_rf x0), some (.int x1), some (.int (q2.1 - (100 : Int32)))]) dX12_stoneSize_29 (c1_i rfl) (by decide) rfl ?_
  refine AW_aload_n dX12_stoneSize_30 rfl ?_
  refine AW_iload_n dX12_stoneSize_31 rfl ?_
  refine AW_callVi (y := yX12_kindOf) (cc := cX12_kindOf) (n := 2) (d := 0) (mc := 0) (ms := 0) (np := 1) (ret := (some .int)) (As := [.int x1]) (st := []) (ci := 11) dX12_stoneSize_32 gT_s rfl tM_X12_183 tI_X12_kindOf selp_X12_kindOf tIni_X12 tY_X12_kindOf (by decide +kernel) ⟨by decide, by decide⟩ ⟨by decide, by decide⟩ (Nat.le_of_ble_eq_true rfl) rfl h (fun q hq => c_X12_kindOf N _ _ _ q hq) (fun q3 _ h => ?_)
  refine AW_iconst (v := 5) dX12_stoneSize_35 (by decide) ?_
  refine AW_icmp_ne (tgt := 45) dX12_stoneSize_36 (by decide) h (fun _ h => ?_) (fun _ h => ?_)
  · refine AW_iload_n dX12_stoneSize_45 rfl ?_
    exact AW_fewer (fw_d (fw_d (fw_d fw_n))) (t_X12_stoneSize_46 N _ _ _ h)
  · refine AW_iconst (v := 2) dX12_stoneSize_39 (by decide) ?_
    refine AW_iload_n dX12_stoneSize_40 rfl ?_
    refine AW_imul dX12_stoneSize_41 ?_
    refine AW_goto (tgt := 46) dX12_stoneSize_42 (by decide) ?_
    exact AW_fewer (fw_d (fw_d (fw_d fw_n))) (t_X12_stoneSize_46 N _ _ _ h)
def f_X12_stoneSize_0 (N : Nat) (A : hP) (x0 : Option Nat) (x1 : Int32) : Option (Int32 × hP) := (oCk A x0 11).bind fun _ => (f_X12_kindOf N A x0 x1).bind fun q4 => if q4.1 = (5 : Int32) then ((oCk q4.2 x0 11).bind fun _ => (f_X12_began N q4.2 x0 (14 : Int32)).bind fun q5 => f_X12_stoneSize_15 N q5.2 x0 x1) else (f_X12_stoneSize_15 N q4.2 x0 x1)
set_option maxRecDepth 20000 in
set_option maxHeartbeats 4000000 in
theorem t_X12_stoneSize_0 {l : Launch} {G : gS} (N : Nat) (A : hP) (x0 : Option Nat) (x1 : Int32) (res : Int32 × hP) (h : f_X12_stoneSize_0 N A x0 x1 = some res) : AW l mX12_stoneSize (g_rm 2 0 0) G (g_Qf G (gi res) 0 0) A 0 0 0 [some (va_rf x0), some (.int x1), none] [] := by
  unfold f_X12_stoneSize_0 at h
  refine AW_aload_n dX12_stoneSize_0 rfl ?_
  refine AW_iload_n dX12_stoneSize_1 rfl ?_
  refine AW_callVi (y := yX12_kindOf) (cc := cX12_kindOf) (n := 2) (d := 0) (mc := 0) (ms := 0) (np := 1) (ret := (some .int)) (As := [.int x1]) (st := []) (ci := 11) dX12_stoneSize_2 gT_s rfl tM_X12_183 tI_X12_kindOf selp_X12_kindOf tIni_X12 tY_X12_kindOf (by decide +kernel) ⟨by decide, by decide⟩ ⟨by decide, by decide⟩ (Nat.le_of_ble_eq_true rfl) rfl h (fun q hq => c_X12_kindOf N _ _ _ q hq) (fun q4 _ h => ?_)
  refine AW_iconst (v := 5) dX12_stoneSize_5 (by decide) ?_
  refine AW_icmp_ne (tgt := 15) dX12_stoneSize_6 (by decide) h (fun _ h => ?_) (fun _ h => ?_)
  · exact (t_X12_stoneSize_15 N _ _ _ _ h)
  · refine AW_aload_n dX12_stoneSize_9 rfl ?_
    refine AW_bipush (v := 14) dX12_stoneSize_10 (by decide) ?_
    refine AW_callVu (y := yX12_began) (cc := cX12_began) (n := 2) (d := 0) (mc := 0) (ms := 0) (np := 1) (ret := none) (As := [.int (14 : Int32)]) (st := []) (ci := 11) dX12_stoneSize_12 gT_s rfl tM_X12_273 tI_X12_began selp_X12_began tIni_X12 tY_X12_began (by decide +kernel) ⟨by decide, by decide⟩ ⟨by decide, by decide⟩ (Nat.le_of_ble_eq_true rfl) rfl h (fun q hq => c_X12_began N _ _ _ q hq) (fun q5 _ h => ?_)
    exact (t_X12_stoneSize_15 N _ _ _ _ h)
def f_X12_stoneSize (N : Nat) (A : hP) (x0 : Option Nat) (x1 : Int32) : Option (Int32 × hP) := f_X12_stoneSize_0 N A x0 x1
set_option maxRecDepth 20000 in
theorem c_X12_stoneSize {l : Launch} (N : Nat) (A : hP) (x0 : Option Nat) (x1 : Int32) (res : Int32 × hP) (h : f_X12_stoneSize N A x0 x1 = some res) : Ct l mX12_stoneSize 2 0 0 A [va_rf x0, .int x1] (gi res) := Ct.of (lv := [(0, va_rf x0), (1, .int x1)]) (ls := [some (va_rf x0), some (.int x1), none]) (by decide) (by simp [lv_args, g_cat_rf, cat_i, cat_l]) rfl (by simp [g_cat_rf, cat_i, cat_l]) (fun G => (t_X12_stoneSize_0 N A x0 x1 res h))
abbrev mX12_markOf : gM := gMk yX12_markOf cX12_markOf 4 (some .int)
def f_X12_markOf_98 (N : Nat) (A : hP) (s0 : Int32) : Option (Int32 × hP) := some (s0, A)
set_option maxRecDepth 20000 in
set_option maxHeartbeats 4000000 in
theorem t_X12_markOf_98 {l : Launch} {G : gS} (N : Nat) (A : hP) (s0 : Int32) (res : Int32 × hP) (h : f_X12_markOf_98 N A s0 = some res) : AW l mX12_markOf (g_rm 3 0 0) G (g_Qf G (gi res) 0 0) A 0 0 98 [none, none, none, none] [.int s0] := by
  unfold f_X12_markOf_98 at h
  exact AW_iret dX12_markOf_98 rfl ⟨Nat.zero_le _, Nat.zero_le _⟩ h
def f_X12_markOf_52 (N : Nat) (A : hP) (x0 : Option Nat) (x1 : Int32) (x2 : Int32) : Option (Int32 × hP) := (oCk A x0 11).bind fun _ => (f_X12_began N A x0 (21 : Int32)).bind fun q1 => (oCk q1.2 x0 11).bind fun _ => (f_X12_began N q1.2 x0 (20 : Int32)).bind fun q2 => (oR q2.2 x0 11 5).bind fun v3 => (oA q2.2 v3 0 (4 : Int32)).bind fun v4 => if x2 = (1 : Int32) then (f_X12_markOf_98 N q2.2 (x1 + v4)) else (if x2 = (2 : Int32) then (f_X12_markOf_98 N q2.2 ((x1 + v4) - (1000 : Int32))) else (f_X12_markOf_98 N q2.2 ((2 : Int32) * (x1 + v4))))
set_option maxRecDepth 20000 in
set_option maxHeartbeats 4000000 in
theorem t_X12_markOf_52 {l : Launch} {G : gS} (N : Nat) (A : hP) (x0 : Option Nat) (x1 : Int32) (x2 : Int32) (res : Int32 × hP) (h : f_X12_markOf_52 N A x0 x1 x2 = some res) : AW l mX12_markOf (g_rm 3 0 0) G (g_Qf G (gi res) 0 0) A 0 0 52 [some (va_rf x0), some (.int x1), some (.int x2), none] [] := by
  unfold f_X12_markOf_52 at h
  refine AW_aload_n dX12_markOf_52 rfl ?_
  refine AW_bipush (v := 21) dX12_markOf_53 (by decide) ?_
  refine AW_callVu (y := yX12_began) (cc := cX12_began) (n := 2) (d := 0) (mc := 0) (ms := 0) (np := 1) (ret := none) (As := [.int (21 : Int32)]) (st := []) (ci := 11) dX12_markOf_55 gT_s rfl tM_X12_273 tI_X12_began selp_X12_began tIni_X12 tY_X12_began (by decide +kernel) ⟨by decide, by decide⟩ ⟨by decide, by decide⟩ (Nat.le_of_ble_eq_true rfl) rfl h (fun q hq => c_X12_began N _ _ _ q hq) (fun q1 _ h => ?_)
  refine AW_aload_n dX12_markOf_58 rfl ?_
  refine AW_bipush (v := 20) dX12_markOf_59 (by decide) ?_
  refine AW_callVu (y := yX12_began) (cc := cX12_began) (n := 2) (d := 0) (mc := 0) (ms := 0) (np := 1) (ret := none) (As := [.int (20 : Int32)]) (st := []) (ci := 11) dX12_markOf_61 gT_s rfl tM_X12_273 tI_X12_began selp_X12_began tIni_X12 tY_X12_began (by decide +kernel) ⟨by decide, by decide⟩ ⟨by decide, by decide⟩ (Nat.le_of_ble_eq_true rfl) rfl h (fun q hq => c_X12_began N _ _ _ q hq) (fun q2 _ h => ?_)
  refine AW_iload_n dX12_markOf_64 rfl ?_
  refine AW_aload_n dX12_markOf_65 rfl ?_
  refine AW_getR (ci := 11) (k0 := 5) (C := RX12) (T := TX12) (N := 31) dX12_markOf_66 rfl (gT_u tU_X12) (by decide) (List.mem_cons_of_mem _ tF_X12_19) h (fun v3 _ h => ?_)
  refine AW_iconst (v := 4) dX12_markOf_69 (by decide) ?_
  refine AW_iald dX12_markOf_70 h (fun v4 _ h => ?_)
  refine AW_iadd dX12_markOf_71 ?_
  refine AW_istore_n (ls' := [some (va_rf x0), some (.int x1), some (.int x2), some (.int (x1 + v4))]) dX12_markOf_72 (c1_i rfl) (by decide) rfl ?_
  refine AW_iload_n dX12_markOf_73 rfl ?_
  refine AW_iconst (v := 1) dX12_markOf_74 (by decide) ?_
  refine AW_icmp_ne (tgt := 82) dX12_markOf_75 (by decide) h (fun _ h => ?_) (fun _ h => ?_)
  · refine AW_iload_n dX12_markOf_82 rfl ?_
    refine AW_iconst (v := 2) dX12_markOf_83 (by decide) ?_
    refine AW_icmp_ne (tgt := 95) dX12_markOf_84 (by decide) h (fun _ h => ?_) (fun _ h => ?_)
    · refine AW_iconst (v := 2) dX12_markOf_95 (by decide) ?_
      refine AW_iload_n dX12_markOf_96 rfl ?_
      refine AW_imul dX12_markOf_97 ?_
      exact AW_fewer (fw_d (fw_d (fw_d (fw_d fw_n)))) (t_X12_markOf_98 N _ _ _ h)
    · refine AW_iload_n dX12_markOf_87 rfl ?_
      refine AW_sipush (v := 1000) dX12_markOf_88 (by decide) ?_
      refine AW_isub dX12_markOf_91 ?_
      refine AW_goto (tgt := 98) dX12_markOf_92 (by decide) ?_
      exact AW_fewer (fw_d (fw_d (fw_d (fw_d fw_n)))) (t_X12_markOf_98 N _ _ _ h)
  · refine AW_iload_n dX12_markOf_78 rfl ?_
    refine AW_goto (tgt := 98) dX12_markOf_79 (by decide) ?_
    exact AW_fewer (fw_d (fw_d (fw_d (fw_d fw_n)))) (t_X12_markOf_98 N _ _ _ h)
def f_X12_markOf_49 (N : Nat) (A : hP) (x0 : Option Nat) (x1 : Int32) (x2 : Int32) (s0 : Option Nat) (s1 : Int32) : Option (Int32 × hP) := (oCk A s0 11).bind fun _ => (f_X12_began N A s0 s1).bind fun q5 => f_X12_markOf_52 N q5.2 x0 x1 x2
set_option maxRecDepth 20000 in
set_option maxHeartbeats 4000000 in
theorem t_X12_markOf_49 {l : Launch} {G : gS} (N : Nat) (A : hP) (x0 : Option Nat) (x1 : Int32) (x2 : Int32) (s0 : Option Nat) (s1 : Int32) (res : Int32 × hP) (h : f_X12_markOf_49 N A x0 x1 x2 s0 s1 = some res) : AW l mX12_markOf (g_rm 3 0 0) G (g_Qf G (gi res) 0 0) A 0 0 49 [some (va_rf x0), some (.int x1), some (.int x2), none] [.int s1, va_rf s0] := by
  unfold f_X12_markOf_49 at h
  refine AW_callVu (y := yX12_began) (cc := cX12_began) (n := 2) (d := 0) (mc := 0) (ms := 0) (np := 1) (ret := none) (As := [.int s1]) (st := []) (ci := 11) dX12_markOf_49 gT_s rfl tM_X12_273 tI_X12_began selp_X12_began tIni_X12 tY_X12_began (by decide +kernel) ⟨by decide, by decide⟩ ⟨by decide, by decide⟩ (Nat.le_of_ble_eq_true rfl) rfl h (fun q hq => c_X12_began N _ _ _ q hq) (fun q5 _ h => ?_)
  exact (t_X12_markOf_52 N _ _ _ _ _ h)
def f_X12_markOf_0 (N : Nat) (A : hP) (x0 : Option Nat) (x1 : Int32) : Option (Int32 × hP) := (oCk A x0 11).bind fun _ => (f_X12_kindOf N A x0 x1).bind fun q6 => if q6.1 < (4 : Int32) then (if q6.1 = (1 : Int32) then (f_X12_markOf_52 N q6.2 x0 x1 q6.1) else (if q6.1 = (2 : Int32) then (f_X12_markOf_49 N q6.2 x0 x1 q6.1 x0 (22 : Int32)) else (f_X12_markOf_49 N q6.2 x0 x1 q6.1 x0 (24 : Int32)))) else ((oCk q6.2 x0 11).bind fun _ => (f_X12_began N q6.2 x0 (23 : Int32)).bind fun q7 => (oCk q7.2 x0 11).bind fun _ => (f_X12_began N q7.2 x0 (20 : Int32)).bind fun q8 => (oCk q8.2 x0 11).bind fun _ => (f_X12_stoneSize N q8.2 x0 x1).bind fun q9 => some (x1 - q9.1, q9.2))
set_option maxRecDepth 20000 in
set_option maxHeartbeats 4000000 in
theorem t_X12_markOf_0 {l : Launch} {G : gS} (N : Nat) (A : hP) (x0 : Option Nat) (x1 : Int32) (res : Int32 × hP) (h : f_X12_markOf_0 N A x0 x1 = some res) : AW l mX12_markOf (g_rm 3 0 0) G (g_Qf G (gi res) 0 0) A 0 0 0 [some (va_rf x0), some (.int x1), none, none] [] := by
  unfold f_X12_markOf_0 at h
  refine AW_aload_n dX12_markOf_0 rfl ?_
  refine AW_iload_n dX12_markOf_1 rfl ?_
  refine AW_callVi (y := yX12_kindOf) (cc := cX12_kindOf) (n := 2) (d := 0) (mc := 0) (ms := 0) (np := 1) (ret := (some .int)) (As := [.int x1]) (st := []) (ci := 11) dX12_markOf_2 gT_s rfl tM_X12_183 tI_X12_kindOf selp_X12_kindOf tIni_X12 tY_X12_kindOf (by decide +kernel) ⟨by decide, by decide⟩ ⟨by decide, by decide⟩ (Nat.le_of_ble_eq_true rfl) rfl h (fun q hq => c_X12_kindOf N _ _ _ q hq) (fun q6 _ h => ?_)
  refine AW_istore_n (ls' := [some (va_rf x0), some (.int x1), some (.int q6.1), none]) dX12_markOf_5 (c1_i rfl) (by decide) rfl ?_
  refine AW_iload_n dX12_markOf_6 rfl ?_
  refine AW_iconst (v := 4) dX12_markOf_7 (by decide) ?_
  refine AW_icmp_lt (tgt := 31) dX12_markOf_8 (by decide) h (fun _ h => ?_) (fun _ h => ?_)
  · refine AW_iload_n dX12_markOf_31 rfl ?_
    refine AW_iconst (v := 1) dX12_markOf_32 (by decide) ?_
    refine AW_icmp_eq (tgt := 52) dX12_markOf_33 (by decide) h (fun _ h => ?_) (fun _ h => ?_)
    · exact (t_X12_markOf_52 N _ _ _ _ _ h)
    · refine AW_aload_n dX12_markOf_36 rfl ?_
      refine AW_iload_n dX12_markOf_37 rfl ?_
      refine AW_iconst (v := 2) dX12_markOf_38 (by decide) ?_
      refine AW_icmp_ne (tgt := 47) dX12_markOf_39 (by decide) h (fun _ h => ?_) (fun _ h => ?_)
      · refine AW_bipush (v := 24) dX12_markOf_47 (by decide) ?_
        exact (t_X12_markOf_49 N _ _ _ _ _ _ _ h)
      · refine AW_bipush (v := 22) dX12_markOf_42 (by decide) ?_
        refine AW_goto (tgt := 49) dX12_markOf_44 (by decide) ?_
        exact (t_X12_markOf_49 N _ _ _ _ _ _ _ h)
  · refine AW_aload_n dX12_markOf_11 rfl ?_
    refine AW_bipush (v := 23) dX12_markOf_12 (by decide) ?_
    refine AW_callVu (y := yX12_began) (cc := cX12_began) (n := 2) (d := 0) (mc := 0) (ms := 0) (np := 1) (ret := none) (As := [.int (23 : Int32)]) (st := []) (ci := 11) dX12_markOf_14 gT_s rfl tM_X12_273 tI_X12_began selp_X12_began tIni_X12 tY_X12_began (by decide +kernel) ⟨by decide, by decide⟩ ⟨by decide, by decide⟩ (Nat.le_of_ble_eq_true rfl) rfl h (fun q hq => c_X12_began N _ _ _ q hq) (fun q7 _ h => ?_)
    refine AW_aload_n dX12_markOf_17 rfl ?_
    refine AW_bipush (v := 20) dX12_markOf_18 (by decide) ?_
    refine AW_callVu (y := yX12_began) (cc := cX12_began) (n := 2) (d := 0) (mc := 0) (ms := 0) (np := 1) (ret := none) (As := [.int (20 : Int32)]) (st := []) (ci := 11) dX12_markOf_20 gT_s rfl tM_X12_273 tI_X12_began selp_X12_began tIni_X12 tY_X12_began (by decide +kernel) ⟨by decide, by decide⟩ ⟨by decide, by decide⟩ (Nat.le_of_ble_eq_true rfl) rfl h (fun q hq => c_X12_began N _ _ _ q hq) (fun q8 _ h => ?_)
    refine AW_iload_n dX12_markOf_23 rfl ?_
    refine AW_aload_n dX12_markOf_24 rfl ?_
    refine AW_iload_n dX12_markOf_25 rfl ?_
    refine AW_callVi (y := yX12_stoneSize) (cc := cX12_stoneSize) (n := 3) (d := 2) (mc := 0) (ms := 0) (np := 1) (ret := (some .int)) (As := [.int x1]) (st := [.int x1]) (ci := 11) dX12_markOf_26 gT_s rfl tM_X12_279 tI_X12_stoneSize selp_X12_stoneSize tIni_X12 tY_X12_stoneSize (by decide +kernel) ⟨by decide, by decide⟩ ⟨by decide, by decide⟩ (Nat.le_of_ble_eq_true rfl) rfl h (fun q hq => c_X12_stoneSize N _ _ _ q hq) (fun q9 _ h => ?_)
    refine AW_isub dX12_markOf_29 ?_
    exact AW_iret dX12_markOf_30 rfl ⟨Nat.zero_le _, Nat.zero_le _⟩ h
def f_X12_markOf (N : Nat) (A : hP) (x0 : Option Nat) (x1 : Int32) : Option (Int32 × hP) := f_X12_markOf_0 N A x0 x1
set_option maxRecDepth 20000 in
theorem c_X12_markOf {l : Launch} (N : Nat) (A : hP) (x0 : Option Nat) (x1 : Int32) (res : Int32 × hP) (h : f_X12_markOf N A x0 x1 = some res) : Ct l mX12_markOf 3 0 0 A [va_rf x0, .int x1] (gi res) := Ct.of (lv := [(0, va_rf x0), (1, .int x1)]) (ls := [some (va_rf x0), some (.int x1), none, none]) (by decide) (by simp [lv_args, g_cat_rf, cat_i, cat_l]) rfl (by simp [g_cat_rf, cat_i, cat_l]) (fun G => (t_X12_markOf_0 N A x0 x1 res h))
abbrev mX12_sizeOf : gM := gMk yX12_sizeOf cX12_sizeOf 4 (some .int)
def f_X12_sizeOf_59 (N : Nat) (A : hP) (s0 : Int32) : Option (Int32 × hP) := some (s0, A)
set_option maxRecDepth 20000 in
set_option maxHeartbeats 4000000 in
theorem t_X12_sizeOf_59 {l : Launch} {G : gS} (N : Nat) (A : hP) (s0 : Int32) (res : Int32 × hP) (h : f_X12_sizeOf_59 N A s0 = some res) : AW l mX12_sizeOf (g_rm 4 0 0) G (g_Qf G (gi res) 0 0) A 0 0 59 [none, none, none, none] [.int s0] := by
  unfold f_X12_sizeOf_59 at h
  exact AW_iret dX12_sizeOf_59 rfl ⟨Nat.zero_le _, Nat.zero_le _⟩ h
def f_X12_sizeOf_28 (N : Nat) (A : hP) (x0 : Option Nat) (x1 : Int32) (x2 : Int32) : Option (Int32 × hP) := (oCk A x0 11).bind fun _ => (f_X12_began N A x0 (11 : Int32)).bind fun q1 => (oCk q1.2 x0 11).bind fun _ => (f_X12_plainSize N q1.2 x0 x1).bind fun q2 => (oCk q2.2 x0 11).bind fun _ => (f_X12_markOf N q2.2 x0 x1).bind fun q3 => if x2 = (3 : Int32) then (f_X12_sizeOf_59 N q3.2 (-(q2.1 + q3.1))) else (f_X12_sizeOf_59 N q3.2 (q2.1 + q3.1))
set_option maxRecDepth 20000 in
set_option maxHeartbeats 4000000 in
theorem t_X12_sizeOf_28 {l : Launch} {G : gS} (N : Nat) (A : hP) (x0 : Option Nat) (x1 : Int32) (x2 : Int32) (res : Int32 × hP) (h : f_X12_sizeOf_28 N A x0 x1 x2 = some res) : AW l mX12_sizeOf (g_rm 4 0 0) G (g_Qf G (gi res) 0 0) A 0 0 28 [some (va_rf x0), some (.int x1), some (.int x2), none] [] := by
  unfold f_X12_sizeOf_28 at h
  refine AW_aload_n dX12_sizeOf_28 rfl ?_
  refine AW_bipush (v := 11) dX12_sizeOf_29 (by decide) ?_
  refine AW_callVu (y := yX12_began) (cc := cX12_began) (n := 2) (d := 0) (mc := 0) (ms := 0) (np := 1) (ret := none) (As := [.int (11 : Int32)]) (st := []) (ci := 11) dX12_sizeOf_31 gT_s rfl tM_X12_273 tI_X12_began selp_X12_began tIni_X12 tY_X12_began (by decide +kernel) ⟨by decide, by decide⟩ ⟨by decide, by decide⟩ (Nat.le_of_ble_eq_true rfl) rfl h (fun q hq => c_X12_began N _ _ _ q hq) (fun q1 _ h => ?_)
  refine AW_aload_n dX12_sizeOf_34 rfl ?_
  refine AW_iload_n dX12_sizeOf_35 rfl ?_
  refine AW_callVi (y := yX12_plainSize) (cc := cX12_plainSize) (n := 2) (d := 1) (mc := 0) (ms := 0) (np := 1) (ret := (some .int)) (As := [.int x1]) (st := []) (ci := 11) dX12_sizeOf_36 gT_s rfl tM_X12_276 tI_X12_plainSize selp_X12_plainSize tIni_X12 tY_X12_plainSize (by decide +kernel) ⟨by decide, by decide⟩ ⟨by decide, by decide⟩ (Nat.le_of_ble_eq_true rfl) rfl h (fun q hq => c_X12_plainSize N _ _ _ q hq) (fun q2 _ h => ?_)
  refine AW_istore_n (ls' := [some (va_rf x0), some (.int x1), some (.int x2), some (.int q2.1)]) dX12_sizeOf_39 (c1_i rfl) (by decide) rfl ?_
  refine AW_iload_n dX12_sizeOf_40 rfl ?_
  refine AW_aload_n dX12_sizeOf_41 rfl ?_
  refine AW_iload_n dX12_sizeOf_42 rfl ?_
  refine AW_callVi (y := yX12_markOf) (cc := cX12_markOf) (n := 4) (d := 3) (mc := 0) (ms := 0) (np := 1) (ret := (some .int)) (As := [.int x1]) (st := [.int q2.1]) (ci := 11) dX12_sizeOf_43 gT_s rfl tM_X12_282 tI_X12_markOf selp_X12_markOf tIni_X12 tY_X12_markOf (by decide +kernel) ⟨by decide, by decide⟩ ⟨by decide, by decide⟩ (Nat.le_of_ble_eq_true rfl) rfl h (fun q hq => c_X12_markOf N _ _ _ q hq) (fun q3 _ h => ?_)
  refine AW_iadd dX12_sizeOf_46 ?_
  refine AW_istore_n (ls' := [some (va_rf x0), some (.int x1), some (.int x2), some (.int (q2.1 + q3.1))]) dX12_sizeOf_47 (c1_i rfl) (by decide) rfl ?_
  refine AW_iload_n dX12_sizeOf_48 rfl ?_
  refine AW_iconst (v := 3) dX12_sizeOf_49 (by decide) ?_
  refine AW_icmp_ne (tgt := 58) dX12_sizeOf_50 (by decide) h (fun _ h => ?_) (fun _ h => ?_)
  · refine AW_iload_n dX12_sizeOf_58 rfl ?_
    exact AW_fewer (fw_d (fw_d (fw_d (fw_d fw_n)))) (t_X12_sizeOf_59 N _ _ _ h)
  · refine AW_iload_n dX12_sizeOf_53 rfl ?_
    refine AW_ineg dX12_sizeOf_54 ?_
    refine AW_goto (tgt := 59) dX12_sizeOf_55 (by decide) ?_
    exact AW_fewer (fw_d (fw_d (fw_d (fw_d fw_n)))) (t_X12_sizeOf_59 N _ _ _ h)
def f_X12_sizeOf_0 (N : Nat) (A : hP) (x0 : Option Nat) (x1 : Int32) : Option (Int32 × hP) := (oCk A x0 11).bind fun _ => (f_X12_kindOf N A x0 x1).bind fun q4 => if q4.1 < (4 : Int32) then (if q4.1 = (3 : Int32) then ((oCk q4.2 x0 11).bind fun _ => (f_X12_began N q4.2 x0 (12 : Int32)).bind fun q5 => f_X12_sizeOf_28 N q5.2 x0 x1 q4.1) else (f_X12_sizeOf_28 N q4.2 x0 x1 q4.1)) else ((oCk q4.2 x0 11).bind fun _ => (f_X12_stoneSize N q4.2 x0 x1).bind fun q6 => some (q6.1, q6.2))
set_option maxRecDepth 20000 in
set_option maxHeartbeats 4000000 in
theorem t_X12_sizeOf_0 {l : Launch} {G : gS} (N : Nat) (A : hP) (x0 : Option Nat) (x1 : Int32) (res : Int32 × hP) (h : f_X12_sizeOf_0 N A x0 x1 = some res) : AW l mX12_sizeOf (g_rm 4 0 0) G (g_Qf G (gi res) 0 0) A 0 0 0 [some (va_rf x0), some (.int x1), none, none] [] := by
  unfold f_X12_sizeOf_0 at h
  refine AW_aload_n dX12_sizeOf_0 rfl ?_
  refine AW_iload_n dX12_sizeOf_1 rfl ?_
  refine AW_callVi (y := yX12_kindOf) (cc := cX12_kindOf) (n := 2) (d := 0) (mc := 0) (ms := 0) (np := 1) (ret := (some .int)) (As := [.int x1]) (st := []) (ci := 11) dX12_sizeOf_2 gT_s rfl tM_X12_183 tI_X12_kindOf selp_X12_kindOf tIni_X12 tY_X12_kindOf (by decide +kernel) ⟨by decide, by decide⟩ ⟨by decide, by decide⟩ (Nat.le_of_ble_eq_true rfl) rfl h (fun q hq => c_X12_kindOf N _ _ _ q hq) (fun q4 _ h => ?_)
  refine AW_istore_n (ls' := [some (va_rf x0), some (.int x1), some (.int q4.1), none]) dX12_sizeOf_5 (c1_i rfl) (by decide) rfl ?_
  refine AW_iload_n dX12_sizeOf_6 rfl ?_
  refine AW_iconst (v := 4) dX12_sizeOf_7 (by decide) ?_
  refine AW_icmp_lt (tgt := 17) dX12_sizeOf_8 (by decide) h (fun _ h => ?_) (fun _ h => ?_)
  · refine AW_iload_n dX12_sizeOf_17 rfl ?_
    refine AW_iconst (v := 3) dX12_sizeOf_18 (by decide) ?_
    refine AW_icmp_ne (tgt := 28) dX12_sizeOf_19 (by decide) h (fun _ h => ?_) (fun _ h => ?_)
    · exact (t_X12_sizeOf_28 N _ _ _ _ _ h)
    · refine AW_aload_n dX12_sizeOf_22 rfl ?_
      refine AW_bipush (v := 12) dX12_sizeOf_23 (by decide) ?_
      refine AW_callVu (y := yX12_began) (cc := cX12_began) (n := 2) (d := 0) (mc := 0) (ms := 0) (np := 1) (ret := none) (As := [.int (12 : Int32)]) (st := []) (ci := 11) dX12_sizeOf_25 gT_s rfl tM_X12_273 tI_X12_began selp_X12_began tIni_X12 tY_X12_began (by decide +kernel) ⟨by decide, by decide⟩ ⟨by decide, by decide⟩ (Nat.le_of_ble_eq_true rfl) rfl h (fun q hq => c_X12_began N _ _ _ q hq) (fun q5 _ h => ?_)
      exact (t_X12_sizeOf_28 N _ _ _ _ _ h)
  · refine AW_aload_n dX12_sizeOf_11 rfl ?_
    refine AW_iload_n dX12_sizeOf_12 rfl ?_
    refine AW_callVi (y := yX12_stoneSize) (cc := cX12_stoneSize) (n := 3) (d := 2) (mc := 0) (ms := 0) (np := 1) (ret := (some .int)) (As := [.int x1]) (st := []) (ci := 11) dX12_sizeOf_13 gT_s rfl tM_X12_279 tI_X12_stoneSize selp_X12_stoneSize tIni_X12 tY_X12_stoneSize (by decide +kernel) ⟨by decide, by decide⟩ ⟨by decide, by decide⟩ (Nat.le_of_ble_eq_true rfl) rfl h (fun q hq => c_X12_stoneSize N _ _ _ q hq) (fun q6 _ h => ?_)
    exact AW_iret dX12_sizeOf_16 rfl ⟨Nat.zero_le _, Nat.zero_le _⟩ h
def f_X12_sizeOf (N : Nat) (A : hP) (x0 : Option Nat) (x1 : Int32) : Option (Int32 × hP) := f_X12_sizeOf_0 N A x0 x1
set_option maxRecDepth 20000 in
theorem c_X12_sizeOf {l : Launch} (N : Nat) (A : hP) (x0 : Option Nat) (x1 : Int32) (res : Int32 × hP) (h : f_X12_sizeOf N A x0 x1 = some res) : Ct l mX12_sizeOf 4 0 0 A [va_rf x0, .int x1] (gi res) := Ct.of (lv := [(0, va_rf x0), (1, .int x1)]) (ls := [some (va_rf x0), some (.int x1), none, none]) (by decide) (by simp [lv_args, g_cat_rf, cat_i, cat_l]) rfl (by simp [g_cat_rf, cat_i, cat_l]) (fun G => (t_X12_sizeOf_0 N A x0 x1 res h))
abbrev mX12_ask : gM := gMk yX12_ask cX12_ask 3 (some .int)
def f_X12_ask_23 (N : Nat) (A : hP) : Option (Int32 × hP) := some ((-1000001 : Int32), A)
set_option maxRecDepth 20000 in
set_option maxHeartbeats 4000000 in
theorem t_X12_ask_23 {l : Launch} {G : gS} (N : Nat) (A : hP) (res : Int32 × hP) (h : f_X12_ask_23 N A  = some res) : AW l mX12_ask (g_rm 5 0 0) G (g_Qf G (gi res) 0 0) A 0 0 23 [none, none, none] [] := by
  unfold f_X12_ask_23 at h
  refine AW_ldc (v := -1000001) dX12_ask_23 (List.mem_cons_of_mem _ tK_X12_67) ?_
  exact AW_iret dX12_ask_25 rfl ⟨Nat.zero_le _, Nat.zero_le _⟩ h
def f_X12_ask_48 (N : Nat) (A : hP) (s0 : Int32) : Option (Int32 × hP) := some (s0, A)
set_option maxRecDepth 20000 in
set_option maxHeartbeats 4000000 in
theorem t_X12_ask_48 {l : Launch} {G : gS} (N : Nat) (A : hP) (s0 : Int32) (res : Int32 × hP) (h : f_X12_ask_48 N A s0 = some res) : AW l mX12_ask (g_rm 5 0 0) G (g_Qf G (gi res) 0 0) A 0 0 48 [none, none, none] [.int s0] := by
  unfold f_X12_ask_48 at h
  exact AW_iret dX12_ask_48 rfl ⟨Nat.zero_le _, Nat.zero_le _⟩ h
def f_X12_ask_0 (N : Nat) (A : hP) (x0 : Option Nat) (x1 : Int32) (x2 : Int32) : Option (Int32 × hP) := (oP A x0 11 0 (.int (0 : Int32))).bind fun A1 => (oCk A1 x0 11).bind fun _ => (f_X12_isThing N A1 x0 x1).bind fun q2 => if q2.1 = (0) then (f_X12_ask_23 N q2.2) else ((f_X12_in N q2.2 x2.toInt64 (0 : Int64) (1 : Int64)).bind fun q3 => if q3.1 = (0) then (f_X12_ask_23 N q3.2) else ((oP q3.2 x0 11 30 (.int (0 : Int32))).bind fun A4 => if x2 = (0) then ((oCk A4 x0 11).bind fun _ => (f_X12_sizeOf N A4 x0 x1).bind fun q6 => f_X12_ask_48 N q6.2 q6.1) else ((oCk A4 x0 11).bind fun _ => (f_X12_markOf N A4 x0 x1).bind fun q5 => f_X12_ask_48 N q5.2 q5.1)))
set_option maxRecDepth 20000 in
set_option maxHeartbeats 4000000 in
theorem t_X12_ask_0 {l : Launch} {G : gS} (N : Nat) (A : hP) (x0 : Option Nat) (x1 : Int32) (x2 : Int32) (res : Int32 × hP) (h : f_X12_ask_0 N A x0 x1 x2 = some res) : AW l mX12_ask (g_rm 5 0 0) G (g_Qf G (gi res) 0 0) A 0 0 0 [some (va_rf x0), some (.int x1), some (.int x2)] [] := by
  unfold f_X12_ask_0 at h
  refine AW_aload_n dX12_ask_0 rfl ?_
  refine AW_iconst (v := 0) dX12_ask_1 (by decide) ?_
  refine AW_put (ci := 11) (k0 := 0) (C := RX12) (T := TX12) (N := 31) (ty0 := tyX12) dX12_ask_2 rfl (gT_u tU_X12) tyX12_ok nmX12 (by decide) (List.mem_cons_of_mem _ tF_X12_47) (Or.inl rfl) rfl rfl h (fun A1 _ h => ?_)
  refine AW_aload_n dX12_ask_5 rfl ?_
  refine AW_iload_n dX12_ask_6 rfl ?_
  refine AW_callVi (y := yX12_isThing) (cc := cX12_isThing) (n := 2) (d := 1) (mc := 0) (ms := 0) (np := 1) (ret := (some .boolean)) (As := [.int x1]) (st := []) (ci := 11) dX12_ask_7 gT_s rfl tM_X12_214 tI_X12_isThing selp_X12_isThing tIni_X12 tY_X12_isThing (by decide +kernel) ⟨by decide, by decide⟩ ⟨by decide, by decide⟩ (Nat.le_of_ble_eq_true rfl) rfl h (fun q hq => c_X12_isThing N _ _ _ q hq) (fun q2 _ h => ?_)
  refine AW_if_eq (tgt := 23) dX12_ask_10 (by decide) h (fun _ h => ?_) (fun _ h => ?_)
  · exact AW_fewer (fw_d (fw_d (fw_d fw_n))) (t_X12_ask_23 N _ _ h)
  · refine AW_iload_n dX12_ask_13 rfl ?_
    refine AW_i2l dX12_ask_14 ?_
    refine AW_lconst (v := 0) dX12_ask_15 (by decide) ?_
    refine AW_lconst (v := 1) dX12_ask_16 (by decide) ?_
    refine AW_callSi (y := yX12_in) (cc := cX12_in) (n := 6) (d := 0) (mc := 0) (ms := 0) (np := 3) (ret := (some .boolean)) (As := [.long x2.toInt64, .long (0 : Int64), .long (1 : Int64)]) (st := []) dX12_ask_17 gT_s tM_X12_57 tS_X12_in tIni_X12 tY_X12_in (by decide +kernel) ⟨by decide, by decide⟩ ⟨by decide, by decide⟩ (Nat.le_of_ble_eq_true rfl) rfl h (fun q hq => c_X12_in N _ _ _ _ q hq) (fun q3 _ h => ?_)
    refine AW_if_ne (tgt := 26) dX12_ask_20 (by decide) h (fun _ h => ?_) (fun _ h => ?_)
    · refine AW_aload_n dX12_ask_26 rfl ?_
      refine AW_iconst (v := 0) dX12_ask_27 (by decide) ?_
      refine AW_put (ci := 11) (k0 := 30) (C := RX12) (T := TX12) (N := 31) (ty0 := tyX12) dX12_ask_28 rfl (gT_u tU_X12) tyX12_ok nmX12 (by decide) (List.mem_cons_of_mem _ tF_X12_270) (Or.inl rfl) rfl rfl h (fun A4 _ h => ?_)
      refine AW_iload_n dX12_ask_31 rfl ?_
      refine AW_if_ne (tgt := 43) dX12_ask_32 (by decide) h (fun _ h => ?_) (fun _ h => ?_)
      · refine AW_aload_n dX12_ask_43 rfl ?_
        refine AW_iload_n dX12_ask_44 rfl ?_
        refine AW_callVi (y := yX12_markOf) (cc := cX12_markOf) (n := 4) (d := 3) (mc := 0) (ms := 0) (np := 1) (ret := (some .int)) (As := [.int x1]) (st := []) (ci := 11) dX12_ask_45 gT_s rfl tM_X12_282 tI_X12_markOf selp_X12_markOf tIni_X12 tY_X12_markOf (by decide +kernel) ⟨by decide, by decide⟩ ⟨by decide, by decide⟩ (Nat.le_of_ble_eq_true rfl) rfl h (fun q hq => c_X12_markOf N _ _ _ q hq) (fun q5 _ h => ?_)
        exact AW_fewer (fw_d (fw_d (fw_d fw_n))) (t_X12_ask_48 N _ _ _ h)
      · refine AW_aload_n dX12_ask_35 rfl ?_
        refine AW_iload_n dX12_ask_36 rfl ?_
        refine AW_callVi (y := yX12_sizeOf) (cc := cX12_sizeOf) (n := 4) (d := 4) (mc := 0) (ms := 0) (np := 1) (ret := (some .int)) (As := [.int x1]) (st := []) (ci := 11) dX12_ask_37 gT_s rfl tM_X12_285 tI_X12_sizeOf selp_X12_sizeOf tIni_X12 tY_X12_sizeOf (by decide +kernel) ⟨by decide, by decide⟩ ⟨by decide, by decide⟩ (Nat.le_of_ble_eq_true rfl) rfl h (fun q hq => c_X12_sizeOf N _ _ _ q hq) (fun q6 _ h => ?_)
        refine AW_goto (tgt := 48) dX12_ask_40 (by decide) ?_
        exact AW_fewer (fw_d (fw_d (fw_d fw_n))) (t_X12_ask_48 N _ _ _ h)
    · exact AW_fewer (fw_d (fw_d (fw_d fw_n))) (t_X12_ask_23 N _ _ h)
def f_X12_ask (N : Nat) (A : hP) (x0 : Option Nat) (x1 : Int32) (x2 : Int32) : Option (Int32 × hP) := f_X12_ask_0 N A x0 x1 x2
set_option maxRecDepth 20000 in
theorem c_X12_ask {l : Launch} (N : Nat) (A : hP) (x0 : Option Nat) (x1 : Int32) (x2 : Int32) (res : Int32 × hP) (h : f_X12_ask N A x0 x1 x2 = some res) : Ct l mX12_ask 5 0 0 A [va_rf x0, .int x1, .int x2] (gi res) := Ct.of (lv := [(0, va_rf x0), (1, .int x1), (2, .int x2)]) (ls := [some (va_rf x0), some (.int x1), some (.int x2)]) (by decide) (by simp [lv_args, g_cat_rf, cat_i, cat_l]) rfl (by simp [g_cat_rf, cat_i, cat_l]) (fun G => (t_X12_ask_0 N A x0 x1 x2 res h))
abbrev mX12_trace : gM := gMk yX12_trace cX12_trace 2 (some .int)
def f_X12_trace_32 (N : Nat) (A : hP) (s0 : Int32) : Option (Int32 × hP) := some (s0, A)
set_option maxRecDepth 20000 in
set_option maxHeartbeats 4000000 in
theorem t_X12_trace_32 {l : Launch} {G : gS} (N : Nat) (A : hP) (s0 : Int32) (res : Int32 × hP) (h : f_X12_trace_32 N A s0 = some res) : AW l mX12_trace (g_rm 1 0 0) G (g_Qf G (gi res) 0 0) A 0 0 32 [none, none] [.int s0] := by
  unfold f_X12_trace_32 at h
  exact AW_iret dX12_trace_32 rfl ⟨Nat.zero_le _, Nat.zero_le _⟩ h
def f_X12_trace_0 (N : Nat) (A : hP) (x0 : Option Nat) (x1 : Int32) : Option (Int32 × hP) := (oP A x0 11 0 (.int (0 : Int32))).bind fun A1 => (oI A1 x0 11 30).bind fun v2 => (f_X12_in N A1 x1.toInt64 (0 : Int64) ((v2 - (1 : Int32)).toInt64)).bind fun q3 => if q3.1 = (0) then (f_X12_trace_32 N q3.2 (-1000000 : Int32)) else ((oR q3.2 x0 11 29).bind fun v4 => (oA q3.2 v4 0 x1).bind fun v5 => f_X12_trace_32 N q3.2 v5)
set_option maxRecDepth 20000 in
set_option maxHeartbeats 4000000 in
theorem t_X12_trace_0 {l : Launch} {G : gS} (N : Nat) (A : hP) (x0 : Option Nat) (x1 : Int32) (res : Int32 × hP) (h : f_X12_trace_0 N A x0 x1 = some res) : AW l mX12_trace (g_rm 1 0 0) G (g_Qf G (gi res) 0 0) A 0 0 0 [some (va_rf x0), some (.int x1)] [] := by
  unfold f_X12_trace_0 at h
  refine AW_aload_n dX12_trace_0 rfl ?_
  refine AW_iconst (v := 0) dX12_trace_1 (by decide) ?_
  refine AW_put (ci := 11) (k0 := 0) (C := RX12) (T := TX12) (N := 31) (ty0 := tyX12) dX12_trace_2 rfl (gT_u tU_X12) tyX12_ok nmX12 (by decide) (List.mem_cons_of_mem _ tF_X12_47) (Or.inl rfl) rfl rfl h (fun A1 _ h => ?_)
  refine AW_iload_n dX12_trace_5 rfl ?_
  refine AW_i2l dX12_trace_6 ?_
  refine AW_lconst (v := 0) dX12_trace_7 (by decide) ?_
  refine AW_aload_n dX12_trace_8 rfl ?_
  refine AW_getI (ci := 11) (k0 := 30) (C := RX12) (T := TX12) (N := 31) dX12_trace_9 rfl (gT_u tU_X12) (by decide) (List.mem_cons_of_mem _ tF_X12_270) h (fun v2 _ h => ?_)
  refine AW_iconst (v := 1) dX12_trace_12 (by decide) ?_
  refine AW_isub dX12_trace_13 ?_
  refine AW_i2l dX12_trace_14 ?_
  refine AW_callSi (y := yX12_in) (cc := cX12_in) (n := 6) (d := 0) (mc := 0) (ms := 0) (np := 3) (ret := (some .boolean)) (As := [.long x1.toInt64, .long (0 : Int64), .long ((v2 - (1 : Int32)).toInt64)]) (st := []) dX12_trace_15 gT_s tM_X12_57 tS_X12_in tIni_X12 tY_X12_in (by decide +kernel) ⟨by decide, by decide⟩ ⟨by decide, by decide⟩ (Nat.le_of_ble_eq_true rfl) rfl h (fun q hq => c_X12_in N _ _ _ _ q hq) (fun q3 _ h => ?_)
  refine AW_if_eq (tgt := 30) dX12_trace_18 (by decide) h (fun _ h => ?_) (fun _ h => ?_)
  · refine AW_ldc (v := -1000000) dX12_trace_30 (List.mem_cons_of_mem _ tK_X12_83) ?_
    exact AW_fewer (fw_d (fw_d fw_n)) (t_X12_trace_32 N _ _ _ h)
  · refine AW_aload_n dX12_trace_21 rfl ?_
    refine AW_getR (ci := 11) (k0 := 29) (C := RX12) (T := TX12) (N := 31) dX12_trace_22 rfl (gT_u tU_X12) (by decide) (List.mem_cons_of_mem _ tF_X12_44) h (fun v4 _ h => ?_)
    refine AW_iload_n dX12_trace_25 rfl ?_
    refine AW_iald dX12_trace_26 h (fun v5 _ h => ?_)
    refine AW_goto (tgt := 32) dX12_trace_27 (by decide) ?_
    exact AW_fewer (fw_d (fw_d fw_n)) (t_X12_trace_32 N _ _ _ h)
def f_X12_trace (N : Nat) (A : hP) (x0 : Option Nat) (x1 : Int32) : Option (Int32 × hP) := f_X12_trace_0 N A x0 x1
set_option maxRecDepth 20000 in
theorem c_X12_trace {l : Launch} (N : Nat) (A : hP) (x0 : Option Nat) (x1 : Int32) (res : Int32 × hP) (h : f_X12_trace N A x0 x1 = some res) : Ct l mX12_trace 1 0 0 A [va_rf x0, .int x1] (gi res) := Ct.of (lv := [(0, va_rf x0), (1, .int x1)]) (ls := [some (va_rf x0), some (.int x1)]) (by decide) (by simp [lv_args, g_cat_rf, cat_i, cat_l]) rfl (by simp [g_cat_rf, cat_i, cat_l]) (fun G => (t_X12_trace_0 N A x0 x1 res h))
abbrev mX12_count : gM := gMk yX12_count cX12_count 4 (some .int)
def f_X12_count_75 (N : Nat) (r54 : hP → Option Nat → Int32 → Int32 → Option (Int32 × hP)) (A : hP) (x0 : Option Nat) (x3 : Int32) (s0 : Int32) (s1 : Int32) : Option (Int32 × hP) := r54 A x0 (s0 + s1) (x3 + (1 : Int32))
set_option maxRecDepth 20000 in
set_option maxHeartbeats 4000000 in
theorem t_X12_count_75 {l : Launch} {G : gS} (N : Nat) (r54 : hP → Option Nat → Int32 → Int32 → Option (Int32 × hP)) (hr54 : ∀ (A : hP) (x0 : Option Nat) (x2 : Int32) (x3 : Int32) (res : Int32 × hP), r54 A x0 x2 x3 = some res → AW l mX12_count (g_rm 0 0 0) G (g_Qf G (gi res) 0 0) A 0 0 54 [some (va_rf x0), none, some (.int x2), some (.int x3)] []) (A : hP) (x0 : Option Nat) (x3 : Int32) (s0 : Int32) (s1 : Int32) (res : Int32 × hP) (h : f_X12_count_75 N r54 A x0 x3 s0 s1 = some res) : AW l mX12_count (g_rm 0 0 0) G (g_Qf G (gi res) 0 0) A 0 0 75 [some (va_rf x0), none, none, some (.int x3)] [.int s1, .int s0] := by
  unfold f_X12_count_75 at h
  refine AW_iadd dX12_count_75 ?_
  refine AW_istore_n (ls' := [some (va_rf x0), none, some (.int (s0 + s1)), some (.int x3)]) dX12_count_76 (c1_n rfl) (by decide) rfl ?_
  refine AW_iinc (v := 1) (ls' := [some (va_rf x0), none, some (.int (s0 + s1)), some (.int (x3 + (1 : Int32)))]) dX12_count_77 rfl (c1_i rfl) (by decide) (by decide) rfl ?_
  refine AW_goto (tgt := 54) dX12_count_80 (by decide) ?_
  exact (hr54 _ _ _ _ _ h)
def f_X12_count_54 (N : Nat) : Nat → hP → Option Nat → Int32 → Int32 → Option (Int32 × hP)
  | 0, _, _, _, _ => none
  | n + 1, A, x0, x2, x3 => if (8 : Int32) ≤ x3 then (some (x2, A)) else ((oR A x0 11 2).bind fun v1 => (oA A v1 0 x3).bind fun v2 => if v2 < (0) then (f_X12_count_75 N (f_X12_count_54 N n) A x0 x3 x2 (0 : Int32)) else (f_X12_count_75 N (f_X12_count_54 N n) A x0 x3 x2 (1 : Int32)))
set_option maxRecDepth 20000 in
set_option maxHeartbeats 4000000 in
theorem t_X12_count_54 {l : Launch} {G : gS} (N : Nat) : ∀ (n : Nat) (A : hP) (x0 : Option Nat) (x2 : Int32) (x3 : Int32) (res : Int32 × hP), f_X12_count_54 N n A x0 x2 x3 = some res → AW l mX12_count (g_rm 0 0 0) G (g_Qf G (gi res) 0 0) A 0 0 54 [some (va_rf x0), none, some (.int x2), some (.int x3)] [] := by
  intro n
  induction n with
  | zero => intro A x0 x2 x3 res h; cases h
  | succ n ih =>
    intro A x0 x2 x3 res h
    rw [f_X12_count_54] at h
    refine AW_iload_n dX12_count_54 rfl ?_
    refine AW_bipush (v := 8) dX12_count_55 (by decide) ?_
    refine AW_icmp_ge (tgt := 83) dX12_count_57 (by decide) h (fun _ h => ?_) (fun _ h => ?_)
    · refine AW_iload_n dX12_count_83 rfl ?_
      exact AW_iret dX12_count_84 rfl ⟨Nat.zero_le _, Nat.zero_le _⟩ h
    · refine AW_iload_n dX12_count_60 rfl ?_
      refine AW_aload_n dX12_count_61 rfl ?_
      refine AW_getR (ci := 11) (k0 := 2) (C := RX12) (T := TX12) (N := 31) dX12_count_62 rfl (gT_u tU_X12) (by decide) (List.mem_cons_of_mem _ tF_X12_7) h (fun v1 _ h => ?_)
      refine AW_iload_n dX12_count_65 rfl ?_
      refine AW_iald dX12_count_66 h (fun v2 _ h => ?_)
      refine AW_if_lt (tgt := 74) dX12_count_67 (by decide) h (fun _ h => ?_) (fun _ h => ?_)
      · refine AW_iconst (v := 0) dX12_count_74 (by decide) ?_
        exact AW_fewer (fw_k (fw_k (fw_d (fw_k fw_n)))) (t_X12_count_75 N (f_X12_count_54 N n) ih _ _ _ _ _ _ h)
      · refine AW_iconst (v := 1) dX12_count_70 (by decide) ?_
        refine AW_goto (tgt := 75) dX12_count_71 (by decide) ?_
        exact AW_fewer (fw_k (fw_k (fw_d (fw_k fw_n)))) (t_X12_count_75 N (f_X12_count_54 N n) ih _ _ _ _ _ _ h)
def f_X12_count_0 (N : Nat) (A : hP) (x0 : Option Nat) (x1 : Int32) : Option (Int32 × hP) := (oP A x0 11 0 (.int (0 : Int32))).bind fun A3 => if x1 = (0 : Int32) then (f_X12_count_54 N N A3 x0 (0 : Int32) (0 : Int32)) else (if x1 = (1 : Int32) then ((oR A3 x0 11 5).bind fun v4 => (oA A3 v4 0 (((3 : Int32) + x1) - (1 : Int32))).bind fun v5 => some (v5, A3)) else (if x1 = (2 : Int32) then ((oR A3 x0 11 5).bind fun v6 => (oA A3 v6 0 (((3 : Int32) + x1) - (1 : Int32))).bind fun v7 => some (v7, A3)) else (if x1 = (3 : Int32) then ((oR A3 x0 11 5).bind fun v8 => (oA A3 v8 0 (x1 - (3 : Int32))).bind fun v9 => some (v9, A3)) else (if x1 = (4 : Int32) then ((oR A3 x0 11 5).bind fun v10 => (oA A3 v10 0 (x1 - (3 : Int32))).bind fun v11 => some (v11, A3)) else (if x1 = (5 : Int32) then ((oR A3 x0 11 5).bind fun v12 => (oA A3 v12 0 (x1 - (3 : Int32))).bind fun v13 => some (v13, A3)) else (if x1 = (6 : Int32) then ((oI A3 x0 11 8).bind fun v14 => some (v14, A3)) else (some ((-1000001 : Int32), A3))))))))
set_option maxRecDepth 20000 in
set_option maxHeartbeats 4000000 in
theorem t_X12_count_0 {l : Launch} {G : gS} (N : Nat) (A : hP) (x0 : Option Nat) (x1 : Int32) (res : Int32 × hP) (h : f_X12_count_0 N A x0 x1 = some res) : AW l mX12_count (g_rm 0 0 0) G (g_Qf G (gi res) 0 0) A 0 0 0 [some (va_rf x0), some (.int x1), none, none] [] := by
  unfold f_X12_count_0 at h
  refine AW_aload_n dX12_count_0 rfl ?_
  refine AW_iconst (v := 0) dX12_count_1 (by decide) ?_
  refine AW_put (ci := 11) (k0 := 0) (C := RX12) (T := TX12) (N := 31) (ty0 := tyX12) dX12_count_2 rfl (gT_u tU_X12) tyX12_ok nmX12 (by decide) (List.mem_cons_of_mem _ tF_X12_47) (Or.inl rfl) rfl rfl h (fun A3 _ h => ?_)
  refine AW_iconst (v := 0) dX12_count_5 (by decide) ?_
  refine AW_istore_n (ls' := [some (va_rf x0), some (.int x1), some (.int (0 : Int32)), none]) dX12_count_6 (c1_i rfl) (by decide) rfl ?_
  refine AW_iload_n dX12_count_7 rfl ?_
  refine AW_case h (fun e8_0 h => ?_) (fun e8_0 h => ?_)
  · refine AW_tabIn (c := 0) (off := 44) (tgt := 52) dX12_count_8 e8_0 (by decide) (by decide) (by decide) (by decide) ?_
    refine AW_iconst (v := 0) dX12_count_52 (by decide) ?_
    refine AW_istore_n (ls' := [some (va_rf x0), some (.int x1), some (.int (0 : Int32)), some (.int (0 : Int32))]) dX12_count_53 (c1_i rfl) (by decide) rfl ?_
    exact AW_fewer (fw_k (fw_d (fw_k (fw_k fw_n)))) (t_X12_count_54 N N _ _ _ _ _ h)
  refine AW_case h (fun e8_1 h => ?_) (fun e8_1 h => ?_)
  · refine AW_tabIn (c := 1) (off := 77) (tgt := 85) dX12_count_8 e8_1 (by decide) (by decide) (by decide) (by decide) ?_
    refine AW_aload_n dX12_count_85 rfl ?_
    refine AW_getR (ci := 11) (k0 := 5) (C := RX12) (T := TX12) (N := 31) dX12_count_86 rfl (gT_u tU_X12) (by decide) (List.mem_cons_of_mem _ tF_X12_19) h (fun v4 _ h => ?_)
    refine AW_iconst (v := 3) dX12_count_89 (by decide) ?_
    refine AW_iload_n dX12_count_90 rfl ?_
    refine AW_iadd dX12_count_91 ?_
    refine AW_iconst (v := 1) dX12_count_92 (by decide) ?_
    refine AW_isub dX12_count_93 ?_
    refine AW_iald dX12_count_94 h (fun v5 _ h => ?_)
    exact AW_iret dX12_count_95 rfl ⟨Nat.zero_le _, Nat.zero_le _⟩ h
  refine AW_case h (fun e8_2 h => ?_) (fun e8_2 h => ?_)
  · refine AW_tabIn (c := 2) (off := 77) (tgt := 85) dX12_count_8 e8_2 (by decide) (by decide) (by decide) (by decide) ?_
    refine AW_aload_n dX12_count_85 rfl ?_
    refine AW_getR (ci := 11) (k0 := 5) (C := RX12) (T := TX12) (N := 31) dX12_count_86 rfl (gT_u tU_X12) (by decide) (List.mem_cons_of_mem _ tF_X12_19) h (fun v6 _ h => ?_)
    refine AW_iconst (v := 3) dX12_count_89 (by decide) ?_
    refine AW_iload_n dX12_count_90 rfl ?_
    refine AW_iadd dX12_count_91 ?_
    refine AW_iconst (v := 1) dX12_count_92 (by decide) ?_
    refine AW_isub dX12_count_93 ?_
    refine AW_iald dX12_count_94 h (fun v7 _ h => ?_)
    exact AW_iret dX12_count_95 rfl ⟨Nat.zero_le _, Nat.zero_le _⟩ h
  refine AW_case h (fun e8_3 h => ?_) (fun e8_3 h => ?_)
  · refine AW_tabIn (c := 3) (off := 88) (tgt := 96) dX12_count_8 e8_3 (by decide) (by decide) (by decide) (by decide) ?_
    refine AW_aload_n dX12_count_96 rfl ?_
    refine AW_getR (ci := 11) (k0 := 5) (C := RX12) (T := TX12) (N := 31) dX12_count_97 rfl (gT_u tU_X12) (by decide) (List.mem_cons_of_mem _ tF_X12_19) h (fun v8 _ h => ?_)
    refine AW_iload_n dX12_count_100 rfl ?_
    refine AW_iconst (v := 3) dX12_count_101 (by decide) ?_
    refine AW_isub dX12_count_102 ?_
    refine AW_iald dX12_count_103 h (fun v9 _ h => ?_)
    exact AW_iret dX12_count_104 rfl ⟨Nat.zero_le _, Nat.zero_le _⟩ h
  refine AW_case h (fun e8_4 h => ?_) (fun e8_4 h => ?_)
  · refine AW_tabIn (c := 4) (off := 88) (tgt := 96) dX12_count_8 e8_4 (by decide) (by decide) (by decide) (by decide) ?_
    refine AW_aload_n dX12_count_96 rfl ?_
    refine AW_getR (ci := 11) (k0 := 5) (C := RX12) (T := TX12) (N := 31) dX12_count_97 rfl (gT_u tU_X12) (by decide) (List.mem_cons_of_mem _ tF_X12_19) h (fun v10 _ h => ?_)
    refine AW_iload_n dX12_count_100 rfl ?_
    refine AW_iconst (v := 3) dX12_count_101 (by decide) ?_
    refine AW_isub dX12_count_102 ?_
    refine AW_iald dX12_count_103 h (fun v11 _ h => ?_)
    exact AW_iret dX12_count_104 rfl ⟨Nat.zero_le _, Nat.zero_le _⟩ h
  refine AW_case h (fun e8_5 h => ?_) (fun e8_5 h => ?_)
  · refine AW_tabIn (c := 5) (off := 88) (tgt := 96) dX12_count_8 e8_5 (by decide) (by decide) (by decide) (by decide) ?_
    refine AW_aload_n dX12_count_96 rfl ?_
    refine AW_getR (ci := 11) (k0 := 5) (C := RX12) (T := TX12) (N := 31) dX12_count_97 rfl (gT_u tU_X12) (by decide) (List.mem_cons_of_mem _ tF_X12_19) h (fun v12 _ h => ?_)
    refine AW_iload_n dX12_count_100 rfl ?_
    refine AW_iconst (v := 3) dX12_count_101 (by decide) ?_
    refine AW_isub dX12_count_102 ?_
    refine AW_iald dX12_count_103 h (fun v13 _ h => ?_)
    exact AW_iret dX12_count_104 rfl ⟨Nat.zero_le _, Nat.zero_le _⟩ h
  refine AW_case h (fun e8_6 h => ?_) (fun e8_6 h => ?_)
  · refine AW_tabIn (c := 6) (off := 97) (tgt := 105) dX12_count_8 e8_6 (by decide) (by decide) (by decide) (by decide) ?_
    refine AW_aload_n dX12_count_105 rfl ?_
    refine AW_getI (ci := 11) (k0 := 8) (C := RX12) (T := TX12) (N := 31) dX12_count_106 rfl (gT_u tU_X12) (by decide) (List.mem_cons_of_mem _ tF_X12_74) h (fun v14 _ h => ?_)
    exact AW_iret dX12_count_109 rfl ⟨Nat.zero_le _, Nat.zero_le _⟩ h
  refine AW_tabOut (tgt := 110) dX12_count_8 (by have a0 := i32_ne e8_0; have b0 : (0 : Int32).toInt = 0 := (by decide); have a1 := i32_ne e8_1; have b1 : (1 : Int32).toInt = 1 := (by decide); have a2 := i32_ne e8_2; have b2 : (2 : Int32).toInt = 2 := (by decide); have a3 := i32_ne e8_3; have b3 : (3 : Int32).toInt = 3 := (by decide); have a4 := i32_ne e8_4; have b4 : (4 : Int32).toInt = 4 := (by decide); have a5 := i32_ne e8_5; have b5 : (5 : Int32).toInt = 5 := (by decide); have a6 := i32_ne e8_6; have b6 : (6 : Int32).toInt = 6 := (by decide); omega) (by decide) ?_
  refine AW_ldc (v := -1000001) dX12_count_110 (List.mem_cons_of_mem _ tK_X12_67) ?_
  exact AW_iret dX12_count_112 rfl ⟨Nat.zero_le _, Nat.zero_le _⟩ h
def f_X12_count (N : Nat) (A : hP) (x0 : Option Nat) (x1 : Int32) : Option (Int32 × hP) := f_X12_count_0 N A x0 x1
set_option maxRecDepth 20000 in
theorem c_X12_count {l : Launch} (N : Nat) (A : hP) (x0 : Option Nat) (x1 : Int32) (res : Int32 × hP) (h : f_X12_count N A x0 x1 = some res) : Ct l mX12_count 0 0 0 A [va_rf x0, .int x1] (gi res) := Ct.of (lv := [(0, va_rf x0), (1, .int x1)]) (ls := [some (va_rf x0), some (.int x1), none, none]) (by decide) (by simp [lv_args, g_cat_rf, cat_i, cat_l]) rfl (by simp [g_cat_rf, cat_i, cat_l]) (fun G => (t_X12_count_0 N A x0 x1 res h))
abbrev mX12_status : gM := gMk yX12_status cX12_status 1 (some .int)
def f_X12_status_0 (N : Nat) (A : hP) (x0 : Option Nat) : Option (Int32 × hP) := (oP A x0 11 0 (.int (0 : Int32))).bind fun A1 => (oI A1 x0 11 1).bind fun v2 => some (v2, A1)
set_option maxRecDepth 20000 in
set_option maxHeartbeats 4000000 in
theorem t_X12_status_0 {l : Launch} {G : gS} (N : Nat) (A : hP) (x0 : Option Nat) (res : Int32 × hP) (h : f_X12_status_0 N A x0 = some res) : AW l mX12_status (g_rm 0 0 0) G (g_Qf G (gi res) 0 0) A 0 0 0 [some (va_rf x0)] [] := by
  unfold f_X12_status_0 at h
  refine AW_aload_n dX12_status_0 rfl ?_
  refine AW_iconst (v := 0) dX12_status_1 (by decide) ?_
  refine AW_put (ci := 11) (k0 := 0) (C := RX12) (T := TX12) (N := 31) (ty0 := tyX12) dX12_status_2 rfl (gT_u tU_X12) tyX12_ok nmX12 (by decide) (List.mem_cons_of_mem _ tF_X12_47) (Or.inl rfl) rfl rfl h (fun A1 _ h => ?_)
  refine AW_aload_n dX12_status_5 rfl ?_
  refine AW_getI (ci := 11) (k0 := 1) (C := RX12) (T := TX12) (N := 31) dX12_status_6 rfl (gT_u tU_X12) (by decide) (List.mem_cons_of_mem _ tF_X12_51) h (fun v2 _ h => ?_)
  exact AW_iret dX12_status_9 rfl ⟨Nat.zero_le _, Nat.zero_le _⟩ h
def f_X12_status (N : Nat) (A : hP) (x0 : Option Nat) : Option (Int32 × hP) := f_X12_status_0 N A x0
set_option maxRecDepth 20000 in
theorem c_X12_status {l : Launch} (N : Nat) (A : hP) (x0 : Option Nat) (res : Int32 × hP) (h : f_X12_status N A x0 = some res) : Ct l mX12_status 0 0 0 A [va_rf x0] (gi res) := Ct.of (lv := [(0, va_rf x0)]) (ls := [some (va_rf x0)]) (by decide) (by simp [lv_args, g_cat_rf, cat_i, cat_l]) rfl (by simp [g_cat_rf, cat_i, cat_l]) (fun G => (t_X12_status_0 N A x0 res h))
