abbrev mX10_forget : gM := gMk yX10_forget cX10_forget 1 none
def f_X10_forget_0 (N : Nat) (A : hP) (x0 : Option Nat) : Option (Unit × hP) := (oPz A x0 9 1 (0 : Int32)).bind fun A1 => some ((), A1)
set_option maxRecDepth 20000 in
set_option maxHeartbeats 4000000 in
theorem t_X10_forget_0 {l : Launch} {G : gS} (N : Nat) (A : hP) (x0 : Option Nat) (res : Unit × hP) (h : f_X10_forget_0 N A x0 = some res) : AW l mX10_forget (g_rm 0 0 0) G (g_Qf G (gu res) 0 0) A 0 0 0 [some (va_rf x0)] [] := by
  unfold f_X10_forget_0 at h
  refine AW_aload_n dX10_forget_0 rfl ?_
  refine AW_iconst (v := 0) dX10_forget_1 (by decide) ?_
  refine AW_putZ (ci := 9) (k0 := 1) (C := RX10) (T := TX10) (N := 13) (ty0 := tyX10) dX10_forget_2 rfl (gT_u tU_X10) tyX10_ok nmX10 (by decide) (List.mem_cons_of_mem _ tF_X10_113) rfl rfl h (fun A1 _ h => ?_)
  exact AW_vret dX10_forget_5 rfl ⟨Nat.zero_le _, Nat.zero_le _⟩ h
def f_X10_forget (N : Nat) (A : hP) (x0 : Option Nat) : Option (Unit × hP) := f_X10_forget_0 N A x0
set_option maxRecDepth 20000 in
theorem c_X10_forget {l : Launch} (N : Nat) (A : hP) (x0 : Option Nat) (res : Unit × hP) (h : f_X10_forget N A x0 = some res) : Ct l mX10_forget 0 0 0 A [va_rf x0] (gu res) := Ct.of (lv := [(0, va_rf x0)]) (ls := [some (va_rf x0)]) (by decide) (by simp [lv_args, g_cat_rf, cat_i, cat_l]) rfl (by simp [g_cat_rf, cat_i, cat_l]) (fun G => (t_X10_forget_0 N A x0 res h))
abbrev mX10_heavyIn : gM := gMk yX10_heavyIn cX10_heavyIn 5 (some .int)
def f_X10_heavyIn_32 (N : Nat) (A : hP) (s0 : Int32) : Option (Int32 × hP) := some (s0, A)
set_option maxRecDepth 20000 in
set_option maxHeartbeats 4000000 in
theorem t_X10_heavyIn_32 {l : Launch} {G : gS} (N : Nat) (A : hP) (s0 : Int32) (res : Int32 × hP) (h : f_X10_heavyIn_32 N A s0 = some res) : AW l mX10_heavyIn (g_rm 1 0 0) G (g_Qf G (gi res) 0 0) A 0 0 32 [none, none, none, none, none] [.int s0] := by
  unfold f_X10_heavyIn_32 at h
  exact AW_iret dX10_heavyIn_32 rfl ⟨Nat.zero_le _, Nat.zero_le _⟩ h
def f_X10_heavyIn_31 (N : Nat) (A : hP) : Option (Int32 × hP) := f_X10_heavyIn_32 N A (0 : Int32)
set_option maxRecDepth 20000 in
set_option maxHeartbeats 4000000 in
theorem t_X10_heavyIn_31 {l : Launch} {G : gS} (N : Nat) (A : hP) (res : Int32 × hP) (h : f_X10_heavyIn_31 N A  = some res) : AW l mX10_heavyIn (g_rm 1 0 0) G (g_Qf G (gi res) 0 0) A 0 0 31 [none, none, none, none, none] [] := by
  unfold f_X10_heavyIn_31 at h
  refine AW_iconst (v := 0) dX10_heavyIn_31 (by decide) ?_
  exact (t_X10_heavyIn_32 N _ _ _ h)
def f_X10_heavyIn_0 (N : Nat) (A : hP) (x0 : Option Nat) (x1 : Int32) (x2 : Int32) (x3 : Int32) : Option (Int32 × hP) := (oCk A x0 2).bind fun _ => (f_X2_thingAt N A x0 x1).bind fun q1 => if q1.1 = none then (f_X10_heavyIn_31 N q1.2) else ((oCk q1.2 x0 2).bind fun _ => (f_X2_liesOn N q1.2 x0 x1 x3).bind fun q2 => if q2.1 = (0) then (f_X10_heavyIn_31 N q2.2) else ((v_X7_heavyWith N q2.2 q1.1 x2 x3).bind fun q3 => f_X10_heavyIn_32 N q3.2 q3.1))
set_option maxRecDepth 20000 in
set_option maxHeartbeats 4000000 in
theorem t_X10_heavyIn_0 {l : Launch} {G : gS} (N : Nat) (A : hP) (x0 : Option Nat) (x1 : Int32) (x2 : Int32) (x3 : Int32) (res : Int32 × hP) (h : f_X10_heavyIn_0 N A x0 x1 x2 x3 = some res) : AW l mX10_heavyIn (g_rm 1 0 0) G (g_Qf G (gi res) 0 0) A 0 0 0 [some (va_rf x0), some (.int x1), some (.int x2), some (.int x3), none] [] := by
  unfold f_X10_heavyIn_0 at h
  refine AW_aload_n dX10_heavyIn_0 rfl ?_
  refine AW_iload_n dX10_heavyIn_1 rfl ?_
  refine AW_callVr (y := yX2_thingAt) (cc := cX2_thingAt) (n := 2) (d := 0) (mc := 0) (ms := 0) (np := 1) (ret := (some (.object "YesterdayScale$Thing"))) (As := [.int x1]) (st := []) (ci := 2) dX10_heavyIn_2 gT_s rfl tM_X10_77 tI_X2_thingAt tSel_X2_X2_X2_thingAt tIni_X2 tY_X2_thingAt (by decide +kernel) ⟨by decide, by decide⟩ ⟨by decide, by decide⟩ (Nat.le_of_ble_eq_true rfl) rfl h (fun q hq => c_X2_thingAt N _ _ _ q hq) (fun q1 _ h => ?_)
  refine AW_astore (ls' := [some (va_rf x0), some (.int x1), some (.int x2), some (.int x3), some (va_rf q1.1)]) dX10_heavyIn_5 (c1_i rfl) (by decide) rfl ?_
  refine AW_aload dX10_heavyIn_7 rfl ?_
  refine AW_ifnull (tgt := 31) dX10_heavyIn_9 (by decide) h (fun _ h => ?_) (fun _ h => ?_)
  · exact AW_fewer (fw_d (fw_d (fw_d (fw_d (fw_d fw_n))))) (t_X10_heavyIn_31 N _ _ h)
  · refine AW_aload_n dX10_heavyIn_12 rfl ?_
    refine AW_iload_n dX10_heavyIn_13 rfl ?_
    refine AW_iload_n dX10_heavyIn_14 rfl ?_
    refine AW_callVi (y := yX2_liesOn) (cc := cX2_liesOn) (n := 3) (d := 0) (mc := 0) (ms := 0) (np := 2) (ret := (some .boolean)) (As := [.int x1, .int x3]) (st := []) (ci := 2) dX10_heavyIn_15 gT_s rfl tM_X10_81 tI_X2_liesOn tSel_X2_X2_X2_liesOn tIni_X2 tY_X2_liesOn (by decide +kernel) ⟨by decide, by decide⟩ ⟨by decide, by decide⟩ (Nat.le_of_ble_eq_true rfl) rfl h (fun q hq => c_X2_liesOn N _ _ _ _ q hq) (fun q2 _ h => ?_)
    refine AW_if_eq (tgt := 31) dX10_heavyIn_18 (by decide) h (fun _ h => ?_) (fun _ h => ?_)
    · exact AW_fewer (fw_d (fw_d (fw_d (fw_d (fw_d fw_n))))) (t_X10_heavyIn_31 N _ _ h)
    · refine AW_aload dX10_heavyIn_21 rfl ?_
      refine AW_iload_n dX10_heavyIn_23 rfl ?_
      refine AW_iload_n dX10_heavyIn_24 rfl ?_
      refine AW_v_X7_heavyWith N dX10_heavyIn_25 gT_s tM_X10_85 (by decide) (by decide) (Nat.le_of_ble_eq_true rfl) h (fun q3 h => ?_)
      refine AW_goto (tgt := 32) dX10_heavyIn_28 (by decide) ?_
      exact AW_fewer (fw_d (fw_d (fw_d (fw_d (fw_d fw_n))))) (t_X10_heavyIn_32 N _ _ _ h)
def f_X10_heavyIn (N : Nat) (A : hP) (x0 : Option Nat) (x1 : Int32) (x2 : Int32) (x3 : Int32) : Option (Int32 × hP) := f_X10_heavyIn_0 N A x0 x1 x2 x3
set_option maxRecDepth 20000 in
theorem c_X10_heavyIn {l : Launch} (N : Nat) (A : hP) (x0 : Option Nat) (x1 : Int32) (x2 : Int32) (x3 : Int32) (res : Int32 × hP) (h : f_X10_heavyIn N A x0 x1 x2 x3 = some res) : Ct l mX10_heavyIn 1 0 0 A [va_rf x0, .int x1, .int x2, .int x3] (gi res) := Ct.of (lv := [(0, va_rf x0), (1, .int x1), (2, .int x2), (3, .int x3)]) (ls := [some (va_rf x0), some (.int x1), some (.int x2), some (.int x3), none]) (by decide) (by simp [lv_args, g_cat_rf, cat_i, cat_l]) rfl (by simp [g_cat_rf, cat_i, cat_l]) (fun G => (t_X10_heavyIn_0 N A x0 x1 x2 x3 res h))
abbrev mX10_fillPair : gM := gMk yX10_fillPair cX10_fillPair 8 none
def f_X10_fillPair_61 (N : Nat) (r41 : hP → Option Nat → Option Nat → Int32 → Int32 → Int32 → Int32 → Option (Unit × hP)) : Nat → hP → Option Nat → Option Nat → Int32 → Int32 → Int32 → Int32 → Int32 → Int32 → Option (Unit × hP)
  | 0, _, _, _, _, _, _, _, _, _ => none
  | n + 1, A, x0, x1, x2, x3, x4, x5, x6, x7 => if (8 : Int32) ≤ x7 then (r41 A x0 x1 x2 x3 x4 (x5 + (-1 : Int32))) else ((oA A x0 0 (x4 + x7)).bind fun v1 => (oS A x0 0 ((x4 + (x5 * (8 : Int32))) + x7) (v1 + x6)).bind fun A2 => f_X10_fillPair_61 N r41 n A2 x0 x1 x2 x3 x4 x5 x6 (x7 + (1 : Int32)))
set_option maxRecDepth 20000 in
set_option maxHeartbeats 4000000 in
theorem t_X10_fillPair_61 {l : Launch} {G : gS} (N : Nat) (r41 : hP → Option Nat → Option Nat → Int32 → Int32 → Int32 → Int32 → Option (Unit × hP)) (hr41 : ∀ (A : hP) (x0 : Option Nat) (x1 : Option Nat) (x2 : Int32) (x3 : Int32) (x4 : Int32) (x5 : Int32) (res : Unit × hP), r41 A x0 x1 x2 x3 x4 x5 = some res → AW l mX10_fillPair (g_rm 2 0 0) G (g_Qf G (gu res) 0 0) A 0 0 41 [some (va_rf x0), some (va_rf x1), some (.int x2), some (.int x3), some (.int x4), some (.int x5), none, none] []) : ∀ (n : Nat) (A : hP) (x0 : Option Nat) (x1 : Option Nat) (x2 : Int32) (x3 : Int32) (x4 : Int32) (x5 : Int32) (x6 : Int32) (x7 : Int32) (res : Unit × hP), f_X10_fillPair_61 N r41 n A x0 x1 x2 x3 x4 x5 x6 x7 = some res → AW l mX10_fillPair (g_rm 2 0 0) G (g_Qf G (gu res) 0 0) A 0 0 61 [some (va_rf x0), some (va_rf x1), some (.int x2), some (.int x3), some (.int x4), some (.int x5), some (.int x6), some (.int x7)] [] := by
  intro n
  induction n with
  | zero => intro A x0 x1 x2 x3 x4 x5 x6 x7 res h; cases h
  | succ n ih =>
    intro A x0 x1 x2 x3 x4 x5 x6 x7 res h
    rw [f_X10_fillPair_61] at h
    refine AW_iload dX10_fillPair_61 rfl ?_
    refine AW_bipush (v := 8) dX10_fillPair_63 (by decide) ?_
    refine AW_icmp_ge (tgt := 97) dX10_fillPair_65 (by decide) h (fun _ h => ?_) (fun _ h => ?_)
    · refine AW_iinc (v := -1) (ls' := [some (va_rf x0), some (va_rf x1), some (.int x2), some (.int x3), some (.int x4), some (.int (x5 + (-1 : Int32))), some (.int x6), some (.int x7)]) dX10_fillPair_97 rfl (c1_i rfl) (by decide) (by decide) rfl ?_
      refine AW_goto (tgt := 41) dX10_fillPair_100 (by decide) ?_
      exact AW_fewer (fw_k (fw_k (fw_k (fw_k (fw_k (fw_k (fw_d (fw_d fw_n)))))))) (hr41 _ _ _ _ _ _ _ _ h)
    · refine AW_aload_n dX10_fillPair_68 rfl ?_
      refine AW_iload dX10_fillPair_69 rfl ?_
      refine AW_iload dX10_fillPair_71 rfl ?_
      refine AW_bipush (v := 8) dX10_fillPair_73 (by decide) ?_
      refine AW_imul dX10_fillPair_75 ?_
      refine AW_iadd dX10_fillPair_76 ?_
      refine AW_iload dX10_fillPair_77 rfl ?_
      refine AW_iadd dX10_fillPair_79 ?_
      refine AW_aload_n dX10_fillPair_80 rfl ?_
      refine AW_iload dX10_fillPair_81 rfl ?_
      refine AW_iload dX10_fillPair_83 rfl ?_
      refine AW_iadd dX10_fillPair_85 ?_
      refine AW_iald dX10_fillPair_86 h (fun v1 _ h => ?_)
      refine AW_iload dX10_fillPair_87 rfl ?_
      refine AW_iadd dX10_fillPair_89 ?_
      refine AW_iast dX10_fillPair_90 h (fun A2 _ h => ?_)
      refine AW_iinc (v := 1) (ls' := [some (va_rf x0), some (va_rf x1), some (.int x2), some (.int x3), some (.int x4), some (.int x5), some (.int x6), some (.int (x7 + (1 : Int32)))]) dX10_fillPair_91 rfl (c1_i rfl) (by decide) (by decide) rfl ?_
      refine AW_goto (tgt := 61) dX10_fillPair_94 (by decide) ?_
      exact (ih _ _ _ _ _ _ _ _ _ _ h)
def f_X10_fillPair_41 (N : Nat) : Nat → hP → Option Nat → Option Nat → Int32 → Int32 → Int32 → Int32 → Option (Unit × hP)
  | 0, _, _, _, _, _, _, _ => none
  | n + 1, A, x0, x1, x2, x3, x4, x5 => if x5 < (0) then (some ((), A)) else ((f_X10_heavyIn N A x1 (x2 + (1 : Int32)) x5 x3).bind fun q3 => f_X10_fillPair_61 N (f_X10_fillPair_41 N n) N q3.2 x0 x1 x2 x3 x4 x5 q3.1 (0 : Int32))
set_option maxRecDepth 20000 in
set_option maxHeartbeats 4000000 in
theorem t_X10_fillPair_41 {l : Launch} {G : gS} (N : Nat) : ∀ (n : Nat) (A : hP) (x0 : Option Nat) (x1 : Option Nat) (x2 : Int32) (x3 : Int32) (x4 : Int32) (x5 : Int32) (res : Unit × hP), f_X10_fillPair_41 N n A x0 x1 x2 x3 x4 x5 = some res → AW l mX10_fillPair (g_rm 2 0 0) G (g_Qf G (gu res) 0 0) A 0 0 41 [some (va_rf x0), some (va_rf x1), some (.int x2), some (.int x3), some (.int x4), some (.int x5), none, none] [] := by
  intro n
  induction n with
  | zero => intro A x0 x1 x2 x3 x4 x5 res h; cases h
  | succ n ih =>
    intro A x0 x1 x2 x3 x4 x5 res h
    rw [f_X10_fillPair_41] at h
    refine AW_iload dX10_fillPair_41 rfl ?_
    refine AW_if_lt (tgt := 103) dX10_fillPair_43 (by decide) h (fun _ h => ?_) (fun _ h => ?_)
    · exact AW_vret dX10_fillPair_103 rfl ⟨Nat.zero_le _, Nat.zero_le _⟩ h
    · refine AW_aload_n dX10_fillPair_46 rfl ?_
      refine AW_iload_n dX10_fillPair_47 rfl ?_
      refine AW_iconst (v := 1) dX10_fillPair_48 (by decide) ?_
      refine AW_iadd dX10_fillPair_49 ?_
      refine AW_iload dX10_fillPair_50 rfl ?_
      refine AW_iload_n dX10_fillPair_52 rfl ?_
      refine AW_callSi (y := yX10_heavyIn) (cc := cX10_heavyIn) (n := 5) (d := 1) (mc := 0) (ms := 0) (np := 4) (ret := (some .int)) (As := [va_rf x1, .int (x2 + (1 : Int32)), .int x5, .int x3]) (st := []) dX10_fillPair_53 gT_s tM_X10_73 tS_X10_heavyIn tIni_X10 tY_X10_heavyIn (by decide +kernel) ⟨by decide, by decide⟩ ⟨by decide, by decide⟩ (Nat.le_of_ble_eq_true rfl) rfl h (fun q hq => c_X10_heavyIn N _ _ _ _ _ q hq) (fun q3 _ h => ?_)
      refine AW_istore (ls' := [some (va_rf x0), some (va_rf x1), some (.int x2), some (.int x3), some (.int x4), some (.int x5), some (.int q3.1), none]) dX10_fillPair_56 (c1_i rfl) (by decide) rfl ?_
      refine AW_iconst (v := 0) dX10_fillPair_58 (by decide) ?_
      refine AW_istore (ls' := [some (va_rf x0), some (va_rf x1), some (.int x2), some (.int x3), some (.int x4), some (.int x5), some (.int q3.1), some (.int (0 : Int32))]) dX10_fillPair_59 (c1_i rfl) (by decide) rfl ?_
      exact (t_X10_fillPair_61 N (f_X10_fillPair_41 N n) ih N _ _ _ _ _ _ _ _ _ _ h)
def f_X10_fillPair_9 (N : Nat) : Nat → hP → Option Nat → Option Nat → Int32 → Int32 → Int32 → Int32 → Option (Unit × hP)
  | 0, _, _, _, _, _, _, _ => none
  | n + 1, A, x0, x1, x2, x3, x4, x5 => if (8 : Int32) ≤ x5 then (f_X10_fillPair_41 N N A x0 x1 x2 x3 x4 (7 : Int32)) else ((f_X10_heavyIn N A x1 x2 x5 x3).bind fun q4 => (oS q4.2 x0 0 (x4 + x5) q4.1).bind fun A5 => f_X10_fillPair_9 N n A5 x0 x1 x2 x3 x4 (x5 + (1 : Int32)))
set_option maxRecDepth 20000 in
set_option maxHeartbeats 4000000 in
theorem t_X10_fillPair_9 {l : Launch} {G : gS} (N : Nat) : ∀ (n : Nat) (A : hP) (x0 : Option Nat) (x1 : Option Nat) (x2 : Int32) (x3 : Int32) (x4 : Int32) (x5 : Int32) (res : Unit × hP), f_X10_fillPair_9 N n A x0 x1 x2 x3 x4 x5 = some res → AW l mX10_fillPair (g_rm 2 0 0) G (g_Qf G (gu res) 0 0) A 0 0 9 [some (va_rf x0), some (va_rf x1), some (.int x2), some (.int x3), some (.int x4), some (.int x5), none, none] [] := by
  intro n
  induction n with
  | zero => intro A x0 x1 x2 x3 x4 x5 res h; cases h
  | succ n ih =>
    intro A x0 x1 x2 x3 x4 x5 res h
    rw [f_X10_fillPair_9] at h
    refine AW_iload dX10_fillPair_9 rfl ?_
    refine AW_bipush (v := 8) dX10_fillPair_11 (by decide) ?_
    refine AW_icmp_ge (tgt := 37) dX10_fillPair_13 (by decide) h (fun _ h => ?_) (fun _ h => ?_)
    · refine AW_bipush (v := 7) dX10_fillPair_37 (by decide) ?_
      refine AW_istore (ls' := [some (va_rf x0), some (va_rf x1), some (.int x2), some (.int x3), some (.int x4), some (.int (7 : Int32)), none, none]) dX10_fillPair_39 (c1_i rfl) (by decide) rfl ?_
      exact (t_X10_fillPair_41 N N _ _ _ _ _ _ _ _ h)
    · refine AW_aload_n dX10_fillPair_16 rfl ?_
      refine AW_iload dX10_fillPair_17 rfl ?_
      refine AW_iload dX10_fillPair_19 rfl ?_
      refine AW_iadd dX10_fillPair_21 ?_
      refine AW_aload_n dX10_fillPair_22 rfl ?_
      refine AW_iload_n dX10_fillPair_23 rfl ?_
      refine AW_iload dX10_fillPair_24 rfl ?_
      refine AW_iload_n dX10_fillPair_26 rfl ?_
      refine AW_callSi (y := yX10_heavyIn) (cc := cX10_heavyIn) (n := 5) (d := 1) (mc := 0) (ms := 0) (np := 4) (ret := (some .int)) (As := [va_rf x1, .int x2, .int x5, .int x3]) (st := [.int (x4 + x5), va_rf x0]) dX10_fillPair_27 gT_s tM_X10_73 tS_X10_heavyIn tIni_X10 tY_X10_heavyIn (by decide +kernel) ⟨by decide, by decide⟩ ⟨by decide, by decide⟩ (Nat.le_of_ble_eq_true rfl) rfl h (fun q hq => c_X10_heavyIn N _ _ _ _ _ q hq) (fun q4 _ h => ?_)
      refine AW_iast dX10_fillPair_30 h (fun A5 _ h => ?_)
      refine AW_iinc (v := 1) (ls' := [some (va_rf x0), some (va_rf x1), some (.int x2), some (.int x3), some (.int x4), some (.int (x5 + (1 : Int32))), none, none]) dX10_fillPair_31 rfl (c1_i rfl) (by decide) (by decide) rfl ?_
      refine AW_goto (tgt := 9) dX10_fillPair_34 (by decide) ?_
      exact (ih _ _ _ _ _ _ _ _ h)
def f_X10_fillPair_0 (N : Nat) (A : hP) (x0 : Option Nat) (x1 : Option Nat) (x2 : Int32) (x3 : Int32) : Option (Unit × hP) := f_X10_fillPair_9 N N A x0 x1 x2 x3 (x3 * (64 : Int32)) (0 : Int32)
set_option maxRecDepth 20000 in
set_option maxHeartbeats 4000000 in
theorem t_X10_fillPair_0 {l : Launch} {G : gS} (N : Nat) (A : hP) (x0 : Option Nat) (x1 : Option Nat) (x2 : Int32) (x3 : Int32) (res : Unit × hP) (h : f_X10_fillPair_0 N A x0 x1 x2 x3 = some res) : AW l mX10_fillPair (g_rm 2 0 0) G (g_Qf G (gu res) 0 0) A 0 0 0 [some (va_rf x0), some (va_rf x1), some (.int x2), some (.int x3), none, none, none, none] [] := by
  unfold f_X10_fillPair_0 at h
  refine AW_iload_n dX10_fillPair_0 rfl ?_
  refine AW_bipush (v := 64) dX10_fillPair_1 (by decide) ?_
  refine AW_imul dX10_fillPair_3 ?_
  refine AW_istore (ls' := [some (va_rf x0), some (va_rf x1), some (.int x2), some (.int x3), some (.int (x3 * (64 : Int32))), none, none, none]) dX10_fillPair_4 (c1_i rfl) (by decide) rfl ?_
  refine AW_iconst (v := 0) dX10_fillPair_6 (by decide) ?_
  refine AW_istore (ls' := [some (va_rf x0), some (va_rf x1), some (.int x2), some (.int x3), some (.int (x3 * (64 : Int32))), some (.int (0 : Int32)), none, none]) dX10_fillPair_7 (c1_i rfl) (by decide) rfl ?_
  exact (t_X10_fillPair_9 N N _ _ _ _ _ _ _ _ h)
def f_X10_fillPair (N : Nat) (A : hP) (x0 : Option Nat) (x1 : Option Nat) (x2 : Int32) (x3 : Int32) : Option (Unit × hP) := f_X10_fillPair_0 N A x0 x1 x2 x3
set_option maxRecDepth 20000 in
theorem c_X10_fillPair {l : Launch} (N : Nat) (A : hP) (x0 : Option Nat) (x1 : Option Nat) (x2 : Int32) (x3 : Int32) (res : Unit × hP) (h : f_X10_fillPair N A x0 x1 x2 x3 = some res) : Ct l mX10_fillPair 2 0 0 A [va_rf x0, va_rf x1, .int x2, .int x3] (gu res) := Ct.of (lv := [(0, va_rf x0), (1, va_rf x1), (2, .int x2), (3, .int x3)]) (ls := [some (va_rf x0), some (va_rf x1), some (.int x2), some (.int x3), none, none, none, none]) (by decide) (by simp [lv_args, g_cat_rf, cat_i, cat_l]) rfl (by simp [g_cat_rf, cat_i, cat_l]) (fun G => (t_X10_fillPair_0 N A x0 x1 x2 x3 res h))
abbrev mX10_takeDay : gM := gMk yX10_takeDay cX10_takeDay 3 none
def f_X10_takeDay_0 (N : Nat) (A : hP) (x0 : Option Nat) (x1 : Option Nat) (x2 : Int32) : Option (Unit × hP) := (oR A x0 9 10).bind fun v1 => (oI A x1 2 1).bind fun v2 => (oCk A x1 2).bind fun _ => (f_X2_reachOf N A x1 x2 v2).bind fun q3 => (oS q3.2 v1 0 x2 q3.1).bind fun A4 => (oR A4 x0 9 8).bind fun v5 => (f_X10_fillPair N A4 v5 x1 (0 : Int32) x2).bind fun q6 => (oR q6.2 x0 9 9).bind fun v7 => (f_X10_fillPair N q6.2 v7 x1 (2 : Int32) x2).bind fun q8 => some ((), q8.2)
set_option maxRecDepth 20000 in
set_option maxHeartbeats 4000000 in
theorem t_X10_takeDay_0 {l : Launch} {G : gS} (N : Nat) (A : hP) (x0 : Option Nat) (x1 : Option Nat) (x2 : Int32) (res : Unit × hP) (h : f_X10_takeDay_0 N A x0 x1 x2 = some res) : AW l mX10_takeDay (g_rm 3 0 0) G (g_Qf G (gu res) 0 0) A 0 0 0 [some (va_rf x0), some (va_rf x1), some (.int x2)] [] := by
  unfold f_X10_takeDay_0 at h
  refine AW_aload_n dX10_takeDay_0 rfl ?_
  refine AW_getR (ci := 9) (k0 := 10) (C := RX10) (T := TX10) (N := 13) dX10_takeDay_1 rfl (gT_u tU_X10) (by decide) (List.mem_cons_of_mem _ tF_X10_18) h (fun v1 _ h => ?_)
  refine AW_iload_n dX10_takeDay_4 rfl ?_
  refine AW_aload_n dX10_takeDay_5 rfl ?_
  refine AW_iload_n dX10_takeDay_6 rfl ?_
  refine AW_aload_n dX10_takeDay_7 rfl ?_
  refine AW_getI (ci := 2) (k0 := 1) (C := RX2) (T := TX2) (N := 11) dX10_takeDay_8 rfl (gT_u tU_X2) (by decide) (List.mem_cons_of_mem _ tF_X10_62) h (fun v2 _ h => ?_)
  refine AW_callVi (y := yX2_reachOf) (cc := cX2_reachOf) (n := 4) (d := 1) (mc := 0) (ms := 0) (np := 2) (ret := (some .int)) (As := [.int x2, .int v2]) (st := [.int x2, va_rf v1]) (ci := 2) dX10_takeDay_11 gT_s rfl tM_X10_65 tI_X2_reachOf tSel_X2_X2_X2_reachOf tIni_X2 tY_X2_reachOf (by decide +kernel) ⟨by decide, by decide⟩ ⟨by decide, by decide⟩ (Nat.le_of_ble_eq_true rfl) rfl h (fun q hq => c_X2_reachOf N _ _ _ _ q hq) (fun q3 _ h => ?_)
  refine AW_iast dX10_takeDay_14 h (fun A4 _ h => ?_)
  refine AW_aload_n dX10_takeDay_15 rfl ?_
  refine AW_getR (ci := 9) (k0 := 8) (C := RX10) (T := TX10) (N := 13) dX10_takeDay_16 rfl (gT_u tU_X10) (by decide) (List.mem_cons_of_mem _ tF_X10_11) h (fun v5 _ h => ?_)
  refine AW_aload_n dX10_takeDay_19 rfl ?_
  refine AW_iconst (v := 0) dX10_takeDay_20 (by decide) ?_
  refine AW_iload_n dX10_takeDay_21 rfl ?_
  refine AW_callSu (y := yX10_fillPair) (cc := cX10_fillPair) (n := 8) (d := 2) (mc := 0) (ms := 0) (np := 4) (ret := none) (As := [va_rf v5, va_rf x1, .int (0 : Int32), .int x2]) (st := []) dX10_takeDay_22 gT_s tM_X10_69 tS_X10_fillPair tIni_X10 tY_X10_fillPair (by decide +kernel) ⟨by decide, by decide⟩ ⟨by decide, by decide⟩ (Nat.le_of_ble_eq_true rfl) rfl h (fun q hq => c_X10_fillPair N _ _ _ _ _ q hq) (fun q6 _ h => ?_)
  refine AW_aload_n dX10_takeDay_25 rfl ?_
  refine AW_getR (ci := 9) (k0 := 9) (C := RX10) (T := TX10) (N := 13) dX10_takeDay_26 rfl (gT_u tU_X10) (by decide) (List.mem_cons_of_mem _ tF_X10_15) h (fun v7 _ h => ?_)
  refine AW_aload_n dX10_takeDay_29 rfl ?_
  refine AW_iconst (v := 2) dX10_takeDay_30 (by decide) ?_
  refine AW_iload_n dX10_takeDay_31 rfl ?_
  refine AW_callSu (y := yX10_fillPair) (cc := cX10_fillPair) (n := 8) (d := 2) (mc := 0) (ms := 0) (np := 4) (ret := none) (As := [va_rf v7, va_rf x1, .int (2 : Int32), .int x2]) (st := []) dX10_takeDay_32 gT_s tM_X10_69 tS_X10_fillPair tIni_X10 tY_X10_fillPair (by decide +kernel) ⟨by decide, by decide⟩ ⟨by decide, by decide⟩ (Nat.le_of_ble_eq_true rfl) rfl h (fun q hq => c_X10_fillPair N _ _ _ _ _ q hq) (fun q8 _ h => ?_)
  exact AW_vret dX10_takeDay_35 rfl ⟨Nat.zero_le _, Nat.zero_le _⟩ h
def f_X10_takeDay (N : Nat) (A : hP) (x0 : Option Nat) (x1 : Option Nat) (x2 : Int32) : Option (Unit × hP) := f_X10_takeDay_0 N A x0 x1 x2
set_option maxRecDepth 20000 in
theorem c_X10_takeDay {l : Launch} (N : Nat) (A : hP) (x0 : Option Nat) (x1 : Option Nat) (x2 : Int32) (res : Unit × hP) (h : f_X10_takeDay N A x0 x1 x2 = some res) : Ct l mX10_takeDay 3 0 0 A [va_rf x0, va_rf x1, .int x2] (gu res) := Ct.of (lv := [(0, va_rf x0), (1, va_rf x1), (2, .int x2)]) (ls := [some (va_rf x0), some (va_rf x1), some (.int x2)]) (by decide) (by simp [lv_args, g_cat_rf, cat_i, cat_l]) rfl (by simp [g_cat_rf, cat_i, cat_l]) (fun G => (t_X10_takeDay_0 N A x0 x1 x2 res h))
abbrev mX10_take : gM := gMk yX10_take cX10_take 3 none
def f_X10_take_38 (N : Nat) : Nat → hP → Option Nat → Option Nat → Int32 → Option (Unit × hP)
  | 0, _, _, _, _ => none
  | n + 1, A, x0, x1, x2 => (oI A x0 9 6).bind fun v1 => if v1 ≤ x2 then (some ((), A)) else ((oCk A x0 9).bind fun _ => (f_X10_takeDay N A x0 x1 x2).bind fun q2 => f_X10_take_38 N n q2.2 x0 x1 (x2 + (1 : Int32)))
set_option maxRecDepth 20000 in
set_option maxHeartbeats 4000000 in
theorem t_X10_take_38 {l : Launch} {G : gS} (N : Nat) : ∀ (n : Nat) (A : hP) (x0 : Option Nat) (x1 : Option Nat) (x2 : Int32) (res : Unit × hP), f_X10_take_38 N n A x0 x1 x2 = some res → AW l mX10_take (g_rm 4 0 0) G (g_Qf G (gu res) 0 0) A 0 0 38 [some (va_rf x0), some (va_rf x1), some (.int x2)] [] := by
  intro n
  induction n with
  | zero => intro A x0 x1 x2 res h; cases h
  | succ n ih =>
    intro A x0 x1 x2 res h
    rw [f_X10_take_38] at h
    refine AW_iload_n dX10_take_38 rfl ?_
    refine AW_aload_n dX10_take_39 rfl ?_
    refine AW_getI (ci := 9) (k0 := 6) (C := RX10) (T := TX10) (N := 13) dX10_take_40 rfl (gT_u tU_X10) (by decide) (List.mem_cons_of_mem _ tF_X10_31) h (fun v1 _ h => ?_)
    refine AW_icmp_ge (tgt := 58) dX10_take_43 (by decide) h (fun _ h => ?_) (fun _ h => ?_)
    · exact AW_vret dX10_take_58 rfl ⟨Nat.zero_le _, Nat.zero_le _⟩ h
    · refine AW_aload_n dX10_take_46 rfl ?_
      refine AW_aload_n dX10_take_47 rfl ?_
      refine AW_iload_n dX10_take_48 rfl ?_
      refine AW_callVu (y := yX10_takeDay) (cc := cX10_takeDay) (n := 3) (d := 3) (mc := 0) (ms := 0) (np := 2) (ret := none) (As := [va_rf x1, .int x2]) (st := []) (ci := 9) dX10_take_49 gT_s rfl tM_X10_58 tI_X10_takeDay selp_X10_takeDay tIni_X10 tY_X10_takeDay (by decide +kernel) ⟨by decide, by decide⟩ ⟨by decide, by decide⟩ (Nat.le_of_ble_eq_true rfl) rfl h (fun q hq => c_X10_takeDay N _ _ _ _ q hq) (fun q2 _ h => ?_)
      refine AW_iinc (v := 1) (ls' := [some (va_rf x0), some (va_rf x1), some (.int (x2 + (1 : Int32)))]) dX10_take_52 rfl (c1_r rfl) (by decide) (by decide) rfl ?_
      refine AW_goto (tgt := 38) dX10_take_55 (by decide) ?_
      exact (ih _ _ _ _ _ h)
def f_X10_take_0 (N : Nat) (A : hP) (x0 : Option Nat) (x1 : Option Nat) : Option (Unit × hP) := (oI A x1 2 2).bind fun v3 => (oP A x0 9 4 (.int v3)).bind fun A4 => (oI A4 x1 2 3).bind fun v5 => (oP A4 x0 9 5 (.int v5)).bind fun A6 => (oI A6 x1 2 5).bind fun v7 => (oP A6 x0 9 6 (.int v7)).bind fun A8 => (oI A8 x1 2 4).bind fun v9 => (oP A8 x0 9 7 (.int ((1 : Int32) <<< (((3 : Int32) * v9) &&& 31)))).bind fun A10 => f_X10_take_38 N N A10 x0 x1 (0 : Int32)
set_option maxRecDepth 20000 in
set_option maxHeartbeats 4000000 in
theorem t_X10_take_0 {l : Launch} {G : gS} (N : Nat) (A : hP) (x0 : Option Nat) (x1 : Option Nat) (res : Unit × hP) (h : f_X10_take_0 N A x0 x1 = some res) : AW l mX10_take (g_rm 4 0 0) G (g_Qf G (gu res) 0 0) A 0 0 0 [some (va_rf x0), some (va_rf x1), none] [] := by
  unfold f_X10_take_0 at h
  refine AW_aload_n dX10_take_0 rfl ?_
  refine AW_aload_n dX10_take_1 rfl ?_
  refine AW_getI (ci := 2) (k0 := 2) (C := RX2) (T := TX2) (N := 11) dX10_take_2 rfl (gT_u tU_X2) (by decide) (List.mem_cons_of_mem _ tF_X10_41) h (fun v3 _ h => ?_)
  refine AW_put (ci := 9) (k0 := 4) (C := RX10) (T := TX10) (N := 13) (ty0 := tyX10) dX10_take_5 rfl (gT_u tU_X10) tyX10_ok nmX10 (by decide) (List.mem_cons_of_mem _ tF_X10_46) (Or.inl rfl) rfl rfl h (fun A4 _ h => ?_)
  refine AW_aload_n dX10_take_8 rfl ?_
  refine AW_aload_n dX10_take_9 rfl ?_
  refine AW_getI (ci := 2) (k0 := 3) (C := RX2) (T := TX2) (N := 11) dX10_take_10 rfl (gT_u tU_X2) (by decide) (List.mem_cons_of_mem _ tF_X10_47) h (fun v5 _ h => ?_)
  refine AW_put (ci := 9) (k0 := 5) (C := RX10) (T := TX10) (N := 13) (ty0 := tyX10) dX10_take_13 rfl (gT_u tU_X10) tyX10_ok nmX10 (by decide) (List.mem_cons_of_mem _ tF_X10_50) (Or.inl rfl) rfl rfl h (fun A6 _ h => ?_)
  refine AW_aload_n dX10_take_16 rfl ?_
  refine AW_aload_n dX10_take_17 rfl ?_
  refine AW_getI (ci := 2) (k0 := 5) (C := RX2) (T := TX2) (N := 11) dX10_take_18 rfl (gT_u tU_X2) (by decide) (List.mem_cons_of_mem _ tF_X10_51) h (fun v7 _ h => ?_)
  refine AW_put (ci := 9) (k0 := 6) (C := RX10) (T := TX10) (N := 13) (ty0 := tyX10) dX10_take_21 rfl (gT_u tU_X10) tyX10_ok nmX10 (by decide) (List.mem_cons_of_mem _ tF_X10_31) (Or.inl rfl) rfl rfl h (fun A8 _ h => ?_)
  refine AW_aload_n dX10_take_24 rfl ?_
  refine AW_iconst (v := 1) dX10_take_25 (by decide) ?_
  refine AW_iconst (v := 3) dX10_take_26 (by decide) ?_
  refine AW_aload_n dX10_take_27 rfl ?_
  refine AW_getI (ci := 2) (k0 := 4) (C := RX2) (T := TX2) (N := 11) dX10_take_28 rfl (gT_u tU_X2) (by decide) (List.mem_cons_of_mem _ tF_X10_52) h (fun v9 _ h => ?_)
  refine AW_imul dX10_take_31 ?_
  refine AW_ishl dX10_take_32 ?_
  refine AW_put (ci := 9) (k0 := 7) (C := RX10) (T := TX10) (N := 13) (ty0 := tyX10) dX10_take_33 rfl (gT_u tU_X10) tyX10_ok nmX10 (by decide) (List.mem_cons_of_mem _ tF_X10_55) (Or.inl rfl) rfl rfl h (fun A10 _ h => ?_)
  refine AW_iconst (v := 0) dX10_take_36 (by decide) ?_
  refine AW_istore_n (ls' := [some (va_rf x0), some (va_rf x1), some (.int (0 : Int32))]) dX10_take_37 (c1_r rfl) (by decide) rfl ?_
  exact (t_X10_take_38 N N _ _ _ _ _ h)
def f_X10_take (N : Nat) (A : hP) (x0 : Option Nat) (x1 : Option Nat) : Option (Unit × hP) := f_X10_take_0 N A x0 x1
set_option maxRecDepth 20000 in
theorem c_X10_take {l : Launch} (N : Nat) (A : hP) (x0 : Option Nat) (x1 : Option Nat) (res : Unit × hP) (h : f_X10_take N A x0 x1 = some res) : Ct l mX10_take 4 0 0 A [va_rf x0, va_rf x1] (gu res) := Ct.of (lv := [(0, va_rf x0), (1, va_rf x1)]) (ls := [some (va_rf x0), some (va_rf x1), none]) (by decide) (by simp [lv_args, g_cat_rf, cat_i, cat_l]) rfl (by simp [g_cat_rf, cat_i, cat_l]) (fun G => (t_X10_take_0 N A x0 x1 res h))
abbrev mX10_begin : gM := gMk yX10_begin cX10_begin 3 none
def f_X10_begin_0 (N : Nat) (A : hP) (x0 : Option Nat) (x1 : Option Nat) (x2 : Option Nat) : Option (Unit × hP) := (oCk A x0 9).bind fun _ => (f_X10_take N A x0 x1).bind fun q1 => (oR q1.2 x0 9 11).bind fun v2 => (oI q1.2 x0 9 6).bind fun v3 => (oK q1.2 x2 (0 : Int32) v2 (0 : Int32) v3).bind fun A4 => some ((), A4)
set_option maxRecDepth 20000 in
set_option maxHeartbeats 4000000 in
theorem t_X10_begin_0 {l : Launch} {G : gS} (N : Nat) (A : hP) (x0 : Option Nat) (x1 : Option Nat) (x2 : Option Nat) (res : Unit × hP) (h : f_X10_begin_0 N A x0 x1 x2 = some res) : AW l mX10_begin (g_rm 5 0 0) G (g_Qf G (gu res) 0 0) A 0 0 0 [some (va_rf x0), some (va_rf x1), some (va_rf x2)] [] := by
  unfold f_X10_begin_0 at h
  refine AW_aload_n dX10_begin_0 rfl ?_
  refine AW_aload_n dX10_begin_1 rfl ?_
  refine AW_callVu (y := yX10_take) (cc := cX10_take) (n := 3) (d := 4) (mc := 0) (ms := 0) (np := 1) (ret := none) (As := [va_rf x1]) (st := []) (ci := 9) dX10_begin_2 gT_s rfl tM_X10_27 tI_X10_take selp_X10_take tIni_X10 tY_X10_take (by decide +kernel) ⟨by decide, by decide⟩ ⟨by decide, by decide⟩ (Nat.le_of_ble_eq_true rfl) rfl h (fun q hq => c_X10_take N _ _ _ q hq) (fun q1 _ h => ?_)
  refine AW_aload_n dX10_begin_5 rfl ?_
  refine AW_iconst (v := 0) dX10_begin_6 (by decide) ?_
  refine AW_aload_n dX10_begin_7 rfl ?_
  refine AW_getR (ci := 9) (k0 := 11) (C := RX10) (T := TX10) (N := 13) dX10_begin_8 rfl (gT_u tU_X10) (by decide) (List.mem_cons_of_mem _ tF_X10_21) h (fun v2 _ h => ?_)
  refine AW_iconst (v := 0) dX10_begin_11 (by decide) ?_
  refine AW_aload_n dX10_begin_12 rfl ?_
  refine AW_getI (ci := 9) (k0 := 6) (C := RX10) (T := TX10) (N := 13) dX10_begin_13 rfl (gT_u tU_X10) (by decide) (List.mem_cons_of_mem _ tF_X10_31) h (fun v3 _ h => ?_)
  refine AW_acopy dX10_begin_16 gT_s tM_X10_35 tNat_acopy tS_acopy tIni_J10 ⟨by decide, by decide⟩ (Nat.le_of_ble_eq_true rfl) h (fun A4 _ h => ?_)
  exact AW_vret dX10_begin_19 rfl ⟨Nat.zero_le _, Nat.zero_le _⟩ h
def f_X10_begin (N : Nat) (A : hP) (x0 : Option Nat) (x1 : Option Nat) (x2 : Option Nat) : Option (Unit × hP) := f_X10_begin_0 N A x0 x1 x2
set_option maxRecDepth 20000 in
theorem c_X10_begin {l : Launch} (N : Nat) (A : hP) (x0 : Option Nat) (x1 : Option Nat) (x2 : Option Nat) (res : Unit × hP) (h : f_X10_begin N A x0 x1 x2 = some res) : Ct l mX10_begin 5 0 0 A [va_rf x0, va_rf x1, va_rf x2] (gu res) := Ct.of (lv := [(0, va_rf x0), (1, va_rf x1), (2, va_rf x2)]) (ls := [some (va_rf x0), some (va_rf x1), some (va_rf x2)]) (by decide) (by simp [lv_args, g_cat_rf, cat_i, cat_l]) rfl (by simp [g_cat_rf, cat_i, cat_l]) (fun G => (t_X10_begin_0 N A x0 x1 x2 res h))
abbrev mX10_shownIn : gM := gMk yX10_shownIn cX10_shownIn 9 (some .int)
def f_X10_shownIn_25 (N : Nat) : Nat → hP → Option Nat → Int32 → Int32 → Int32 → Int32 → Int32 → Int32 → Option (Int32 × hP)
  | 0, _, _, _, _, _, _, _, _ => none
  | n + 1, A, x0, x2, x3, x4, x5, x6, x7 => if x5 < x7 then ((oI A x0 9 5).bind fun v1 => (f_X2_leftOver N A x6 v1).bind fun q2 => some (q2.1, q2.2)) else ((oR A x0 9 8).bind fun v3 => (oA A v3 0 (((x2 - x7) * (64 : Int32)) + x3)).bind fun v4 => (oR A x0 9 9).bind fun v5 => (oA A v5 0 (((x2 - x7) * (64 : Int32)) + x4)).bind fun v6 => (oI A x0 9 4).bind fun v7 => f_X10_shownIn_25 N n A x0 x2 x3 x4 x5 (x6 + ((v4 + v6) >>> ((x7 * v7) &&& 31))) (x7 + (1 : Int32)))
set_option maxRecDepth 20000 in
set_option maxHeartbeats 4000000 in
theorem t_X10_shownIn_25 {l : Launch} {G : gS} (N : Nat) : ∀ (n : Nat) (A : hP) (x0 : Option Nat) (x2 : Int32) (x3 : Int32) (x4 : Int32) (x5 : Int32) (x6 : Int32) (x7 : Int32) (res : Int32 × hP), f_X10_shownIn_25 N n A x0 x2 x3 x4 x5 x6 x7 = some res → AW l mX10_shownIn (g_rm 1 0 0) G (g_Qf G (gi res) 0 0) A 0 0 25 [some (va_rf x0), none, some (.int x2), some (.int x3), some (.int x4), some (.int x5), some (.int x6), some (.int x7), none] [] := by
  intro n
  induction n with
  | zero => intro A x0 x2 x3 x4 x5 x6 x7 res h; cases h
  | succ n ih =>
    intro A x0 x2 x3 x4 x5 x6 x7 res h
    rw [f_X10_shownIn_25] at h
    refine AW_iload dX10_shownIn_25 rfl ?_
    refine AW_iload dX10_shownIn_27 rfl ?_
    refine AW_icmp_gt (tgt := 80) dX10_shownIn_29 (by decide) h (fun _ h => ?_) (fun _ h => ?_)
    · refine AW_iload dX10_shownIn_80 rfl ?_
      refine AW_aload_n dX10_shownIn_82 rfl ?_
      refine AW_getI (ci := 9) (k0 := 5) (C := RX10) (T := TX10) (N := 13) dX10_shownIn_83 rfl (gT_u tU_X10) (by decide) (List.mem_cons_of_mem _ tF_X10_50) h (fun v1 _ h => ?_)
      refine AW_callSi (y := yX2_leftOver) (cc := cX2_leftOver) (n := 2) (d := 0) (mc := 0) (ms := 0) (np := 2) (ret := (some .int)) (As := [.int x6, .int v1]) (st := []) dX10_shownIn_86 gT_s tM_X10_90 tS_X2_leftOver tIni_X2 tY_X2_leftOver (by decide +kernel) ⟨by decide, by decide⟩ ⟨by decide, by decide⟩ (Nat.le_of_ble_eq_true rfl) rfl h (fun q hq => c_X2_leftOver N _ _ _ q hq) (fun q2 _ h => ?_)
      exact AW_iret dX10_shownIn_89 rfl ⟨Nat.zero_le _, Nat.zero_le _⟩ h
    · refine AW_iload_n dX10_shownIn_32 rfl ?_
      refine AW_iload dX10_shownIn_33 rfl ?_
      refine AW_isub dX10_shownIn_35 ?_
      refine AW_bipush (v := 64) dX10_shownIn_36 (by decide) ?_
      refine AW_imul dX10_shownIn_38 ?_
      refine AW_istore (ls' := [some (va_rf x0), none, some (.int x2), some (.int x3), some (.int x4), some (.int x5), some (.int x6), some (.int x7), some (.int ((x2 - x7) * (64 : Int32)))]) dX10_shownIn_39 (c1_i rfl) (by decide) rfl ?_
      refine AW_iload dX10_shownIn_41 rfl ?_
      refine AW_aload_n dX10_shownIn_43 rfl ?_
      refine AW_getR (ci := 9) (k0 := 8) (C := RX10) (T := TX10) (N := 13) dX10_shownIn_44 rfl (gT_u tU_X10) (by decide) (List.mem_cons_of_mem _ tF_X10_11) h (fun v3 _ h => ?_)
      refine AW_iload dX10_shownIn_47 rfl ?_
      refine AW_iload_n dX10_shownIn_49 rfl ?_
      refine AW_iadd dX10_shownIn_50 ?_
      refine AW_iald dX10_shownIn_51 h (fun v4 _ h => ?_)
      refine AW_aload_n dX10_shownIn_52 rfl ?_
      refine AW_getR (ci := 9) (k0 := 9) (C := RX10) (T := TX10) (N := 13) dX10_shownIn_53 rfl (gT_u tU_X10) (by decide) (List.mem_cons_of_mem _ tF_X10_15) h (fun v5 _ h => ?_)
      refine AW_iload dX10_shownIn_56 rfl ?_
      refine AW_iload dX10_shownIn_58 rfl ?_
      refine AW_iadd dX10_shownIn_60 ?_
      refine AW_iald dX10_shownIn_61 h (fun v6 _ h => ?_)
      refine AW_iadd dX10_shownIn_62 ?_
      refine AW_iload dX10_shownIn_63 rfl ?_
      refine AW_aload_n dX10_shownIn_65 rfl ?_
      refine AW_getI (ci := 9) (k0 := 4) (C := RX10) (T := TX10) (N := 13) dX10_shownIn_66 rfl (gT_u tU_X10) (by decide) (List.mem_cons_of_mem _ tF_X10_46) h (fun v7 _ h => ?_)
      refine AW_imul dX10_shownIn_69 ?_
      refine AW_ishr dX10_shownIn_70 ?_
      refine AW_iadd dX10_shownIn_71 ?_
      refine AW_istore (ls' := [some (va_rf x0), none, some (.int x2), some (.int x3), some (.int x4), some (.int x5), some (.int (x6 + ((v4 + v6) >>> ((x7 * v7) &&& 31)))), some (.int x7), some (.int ((x2 - x7) * (64 : Int32)))]) dX10_shownIn_72 (c1_i rfl) (by decide) rfl ?_
      refine AW_iinc (v := 1) (ls' := [some (va_rf x0), none, some (.int x2), some (.int x3), some (.int x4), some (.int x5), some (.int (x6 + ((v4 + v6) >>> ((x7 * v7) &&& 31)))), some (.int (x7 + (1 : Int32))), some (.int ((x2 - x7) * (64 : Int32)))]) dX10_shownIn_74 rfl (c1_i rfl) (by decide) (by decide) rfl ?_
      refine AW_goto (tgt := 25) dX10_shownIn_77 (by decide) ?_
      exact AW_fewer (fw_k (fw_k (fw_k (fw_k (fw_k (fw_k (fw_k (fw_k (fw_d fw_n))))))))) (ih _ _ _ _ _ _ _ _ _ h)
def f_X10_shownIn_0 (N : Nat) (A : hP) (x0 : Option Nat) (x1 : Int32) (x2 : Int32) : Option (Int32 × hP) := (oR A x0 9 10).bind fun v8 => (oA A v8 0 x2).bind fun v9 => f_X10_shownIn_25 N N A x0 x2 (x1 &&& (63 : Int32)) (x1 >>> ((6 : Int32) &&& 31)) v9 (0 : Int32) (0 : Int32)
set_option maxRecDepth 20000 in
set_option maxHeartbeats 4000000 in
theorem t_X10_shownIn_0 {l : Launch} {G : gS} (N : Nat) (A : hP) (x0 : Option Nat) (x1 : Int32) (x2 : Int32) (res : Int32 × hP) (h : f_X10_shownIn_0 N A x0 x1 x2 = some res) : AW l mX10_shownIn (g_rm 1 0 0) G (g_Qf G (gi res) 0 0) A 0 0 0 [some (va_rf x0), some (.int x1), some (.int x2), none, none, none, none, none, none] [] := by
  unfold f_X10_shownIn_0 at h
  refine AW_iload_n dX10_shownIn_0 rfl ?_
  refine AW_bipush (v := 63) dX10_shownIn_1 (by decide) ?_
  refine AW_iand dX10_shownIn_3 ?_
  refine AW_istore_n (ls' := [some (va_rf x0), some (.int x1), some (.int x2), some (.int (x1 &&& (63 : Int32))), none, none, none, none, none]) dX10_shownIn_4 (c1_i rfl) (by decide) rfl ?_
  refine AW_iload_n dX10_shownIn_5 rfl ?_
  refine AW_bipush (v := 6) dX10_shownIn_6 (by decide) ?_
  refine AW_ishr dX10_shownIn_8 ?_
  refine AW_istore (ls' := [some (va_rf x0), some (.int x1), some (.int x2), some (.int (x1 &&& (63 : Int32))), some (.int (x1 >>> ((6 : Int32) &&& 31))), none, none, none, none]) dX10_shownIn_9 (c1_i rfl) (by decide) rfl ?_
  refine AW_aload_n dX10_shownIn_11 rfl ?_
  refine AW_getR (ci := 9) (k0 := 10) (C := RX10) (T := TX10) (N := 13) dX10_shownIn_12 rfl (gT_u tU_X10) (by decide) (List.mem_cons_of_mem _ tF_X10_18) h (fun v8 _ h => ?_)
  refine AW_iload_n dX10_shownIn_15 rfl ?_
  refine AW_iald dX10_shownIn_16 h (fun v9 _ h => ?_)
  refine AW_istore (ls' := [some (va_rf x0), some (.int x1), some (.int x2), some (.int (x1 &&& (63 : Int32))), some (.int (x1 >>> ((6 : Int32) &&& 31))), some (.int v9), none, none, none]) dX10_shownIn_17 (c1_i rfl) (by decide) rfl ?_
  refine AW_iconst (v := 0) dX10_shownIn_19 (by decide) ?_
  refine AW_istore (ls' := [some (va_rf x0), some (.int x1), some (.int x2), some (.int (x1 &&& (63 : Int32))), some (.int (x1 >>> ((6 : Int32) &&& 31))), some (.int v9), some (.int (0 : Int32)), none, none]) dX10_shownIn_20 (c1_i rfl) (by decide) rfl ?_
  refine AW_iconst (v := 0) dX10_shownIn_22 (by decide) ?_
  refine AW_istore (ls' := [some (va_rf x0), some (.int x1), some (.int x2), some (.int (x1 &&& (63 : Int32))), some (.int (x1 >>> ((6 : Int32) &&& 31))), some (.int v9), some (.int (0 : Int32)), some (.int (0 : Int32)), none]) dX10_shownIn_23 (c1_i rfl) (by decide) rfl ?_
  exact AW_fewer (fw_k (fw_d (fw_k (fw_k (fw_k (fw_k (fw_k (fw_k (fw_k fw_n))))))))) (t_X10_shownIn_25 N N _ _ _ _ _ _ _ _ _ h)
def f_X10_shownIn (N : Nat) (A : hP) (x0 : Option Nat) (x1 : Int32) (x2 : Int32) : Option (Int32 × hP) := f_X10_shownIn_0 N A x0 x1 x2
set_option maxRecDepth 20000 in
theorem c_X10_shownIn {l : Launch} (N : Nat) (A : hP) (x0 : Option Nat) (x1 : Int32) (x2 : Int32) (res : Int32 × hP) (h : f_X10_shownIn N A x0 x1 x2 = some res) : Ct l mX10_shownIn 1 0 0 A [va_rf x0, .int x1, .int x2] (gi res) := Ct.of (lv := [(0, va_rf x0), (1, .int x1), (2, .int x2)]) (ls := [some (va_rf x0), some (.int x1), some (.int x2), none, none, none, none, none, none]) (by decide) (by simp [lv_args, g_cat_rf, cat_i, cat_l]) rfl (by simp [g_cat_rf, cat_i, cat_l]) (fun G => (t_X10_shownIn_0 N A x0 x1 x2 res h))
abbrev mX10_isFitting : gM := gMk yX10_isFitting cX10_isFitting 3 (some .boolean)
def f_X10_isFitting_37 (N : Nat) (r2 : hP → Option Nat → Int32 → Int32 → Option (Int32 × hP)) (A : hP) (x0 : Option Nat) (x1 : Int32) (x2 : Int32) : Option (Int32 × hP) := r2 A x0 x1 (x2 + (1 : Int32))
set_option maxRecDepth 20000 in
set_option maxHeartbeats 4000000 in
theorem t_X10_isFitting_37 {l : Launch} {G : gS} (N : Nat) (r2 : hP → Option Nat → Int32 → Int32 → Option (Int32 × hP)) (hr2 : ∀ (A : hP) (x0 : Option Nat) (x1 : Int32) (x2 : Int32) (res : Int32 × hP), r2 A x0 x1 x2 = some res → AW l mX10_isFitting (g_rm 2 0 0) G (g_Qf G (gi res) 0 0) A 0 0 2 [some (va_rf x0), some (.int x1), some (.int x2)] []) (A : hP) (x0 : Option Nat) (x1 : Int32) (x2 : Int32) (res : Int32 × hP) (h : f_X10_isFitting_37 N r2 A x0 x1 x2 = some res) : AW l mX10_isFitting (g_rm 2 0 0) G (g_Qf G (gi res) 0 0) A 0 0 37 [some (va_rf x0), some (.int x1), some (.int x2)] [] := by
  unfold f_X10_isFitting_37 at h
  refine AW_iinc (v := 1) (ls' := [some (va_rf x0), some (.int x1), some (.int (x2 + (1 : Int32)))]) dX10_isFitting_37 rfl (c1_i rfl) (by decide) (by decide) rfl ?_
  refine AW_goto (tgt := 2) dX10_isFitting_40 (by decide) ?_
  exact (hr2 _ _ _ _ _ h)
def f_X10_isFitting_2 (N : Nat) : Nat → hP → Option Nat → Int32 → Int32 → Option (Int32 × hP)
  | 0, _, _, _, _ => none
  | n + 1, A, x0, x1, x2 => (oI A x0 9 6).bind fun v1 => if v1 ≤ x2 then (if (1 : Int32) = 0 ∨ (1 : Int32) = 1 then some ((1 : Int32), A) else none) else ((oR A x0 9 11).bind fun v2 => (oA A v2 0 x2).bind fun v3 => if v3 = (-1 : Int32) then (f_X10_isFitting_37 N (f_X10_isFitting_2 N n) A x0 x1 x2) else ((oR A x0 9 11).bind fun v4 => (oA A v4 0 x2).bind fun v5 => (oCk A x0 9).bind fun _ => (f_X10_shownIn N A x0 x1 x2).bind fun q6 => if v5 = q6.1 then (f_X10_isFitting_37 N (f_X10_isFitting_2 N n) q6.2 x0 x1 x2) else (if (0 : Int32) = 0 ∨ (0 : Int32) = 1 then some ((0 : Int32), q6.2) else none)))
set_option maxRecDepth 20000 in
set_option maxHeartbeats 4000000 in
theorem t_X10_isFitting_2 {l : Launch} {G : gS} (N : Nat) : ∀ (n : Nat) (A : hP) (x0 : Option Nat) (x1 : Int32) (x2 : Int32) (res : Int32 × hP), f_X10_isFitting_2 N n A x0 x1 x2 = some res → AW l mX10_isFitting (g_rm 2 0 0) G (g_Qf G (gi res) 0 0) A 0 0 2 [some (va_rf x0), some (.int x1), some (.int x2)] [] := by
  intro n
  induction n with
  | zero => intro A x0 x1 x2 res h; cases h
  | succ n ih =>
    intro A x0 x1 x2 res h
    rw [f_X10_isFitting_2] at h
    refine AW_iload_n dX10_isFitting_2 rfl ?_
    refine AW_aload_n dX10_isFitting_3 rfl ?_
    refine AW_getI (ci := 9) (k0 := 6) (C := RX10) (T := TX10) (N := 13) dX10_isFitting_4 rfl (gT_u tU_X10) (by decide) (List.mem_cons_of_mem _ tF_X10_31) h (fun v1 _ h => ?_)
    refine AW_icmp_ge (tgt := 43) dX10_isFitting_7 (by decide) h (fun _ h => ?_) (fun _ h => ?_)
    · refine AW_iconst (v := 1) dX10_isFitting_43 (by decide) ?_
      exact AW_zret dX10_isFitting_44 rfl ⟨Nat.zero_le _, Nat.zero_le _⟩ h
    · refine AW_aload_n dX10_isFitting_10 rfl ?_
      refine AW_getR (ci := 9) (k0 := 11) (C := RX10) (T := TX10) (N := 13) dX10_isFitting_11 rfl (gT_u tU_X10) (by decide) (List.mem_cons_of_mem _ tF_X10_21) h (fun v2 _ h => ?_)
      refine AW_iload_n dX10_isFitting_14 rfl ?_
      refine AW_iald dX10_isFitting_15 h (fun v3 _ h => ?_)
      refine AW_iconst (v := -1) dX10_isFitting_16 (by decide) ?_
      refine AW_icmp_eq (tgt := 37) dX10_isFitting_17 (by decide) h (fun _ h => ?_) (fun _ h => ?_)
      · exact (t_X10_isFitting_37 N (f_X10_isFitting_2 N n) ih _ _ _ _ _ h)
      · refine AW_aload_n dX10_isFitting_20 rfl ?_
        refine AW_getR (ci := 9) (k0 := 11) (C := RX10) (T := TX10) (N := 13) dX10_isFitting_21 rfl (gT_u tU_X10) (by decide) (List.mem_cons_of_mem _ tF_X10_21) h (fun v4 _ h => ?_)
        refine AW_iload_n dX10_isFitting_24 rfl ?_
        refine AW_iald dX10_isFitting_25 h (fun v5 _ h => ?_)
        refine AW_aload_n dX10_isFitting_26 rfl ?_
        refine AW_iload_n dX10_isFitting_27 rfl ?_
        refine AW_iload_n dX10_isFitting_28 rfl ?_
        refine AW_callVi (y := yX10_shownIn) (cc := cX10_shownIn) (n := 9) (d := 1) (mc := 0) (ms := 0) (np := 2) (ret := (some .int)) (As := [.int x1, .int x2]) (st := [.int v5]) (ci := 9) dX10_isFitting_29 gT_s rfl tM_X10_93 tI_X10_shownIn selp_X10_shownIn tIni_X10 tY_X10_shownIn (by decide +kernel) ⟨by decide, by decide⟩ ⟨by decide, by decide⟩ (Nat.le_of_ble_eq_true rfl) rfl h (fun q hq => c_X10_shownIn N _ _ _ _ q hq) (fun q6 _ h => ?_)
        refine AW_icmp_eq (tgt := 37) dX10_isFitting_32 (by decide) h (fun _ h => ?_) (fun _ h => ?_)
        · exact (t_X10_isFitting_37 N (f_X10_isFitting_2 N n) ih _ _ _ _ _ h)
        · refine AW_iconst (v := 0) dX10_isFitting_35 (by decide) ?_
          exact AW_zret dX10_isFitting_36 rfl ⟨Nat.zero_le _, Nat.zero_le _⟩ h
def f_X10_isFitting_0 (N : Nat) (A : hP) (x0 : Option Nat) (x1 : Int32) : Option (Int32 × hP) := f_X10_isFitting_2 N N A x0 x1 (0 : Int32)
set_option maxRecDepth 20000 in
set_option maxHeartbeats 4000000 in
theorem t_X10_isFitting_0 {l : Launch} {G : gS} (N : Nat) (A : hP) (x0 : Option Nat) (x1 : Int32) (res : Int32 × hP) (h : f_X10_isFitting_0 N A x0 x1 = some res) : AW l mX10_isFitting (g_rm 2 0 0) G (g_Qf G (gi res) 0 0) A 0 0 0 [some (va_rf x0), some (.int x1), none] [] := by
  unfold f_X10_isFitting_0 at h
  refine AW_iconst (v := 0) dX10_isFitting_0 (by decide) ?_
  refine AW_istore_n (ls' := [some (va_rf x0), some (.int x1), some (.int (0 : Int32))]) dX10_isFitting_1 (c1_i rfl) (by decide) rfl ?_
  exact (t_X10_isFitting_2 N N _ _ _ _ _ h)
def f_X10_isFitting (N : Nat) (A : hP) (x0 : Option Nat) (x1 : Int32) : Option (Int32 × hP) := f_X10_isFitting_0 N A x0 x1
set_option maxRecDepth 20000 in
theorem c_X10_isFitting {l : Launch} (N : Nat) (A : hP) (x0 : Option Nat) (x1 : Int32) (res : Int32 × hP) (h : f_X10_isFitting N A x0 x1 = some res) : Ct l mX10_isFitting 2 0 0 A [va_rf x0, .int x1] (gi res) := Ct.of (lv := [(0, va_rf x0), (1, .int x1)]) (ls := [some (va_rf x0), some (.int x1), none]) (by decide) (by simp [lv_args, g_cat_rf, cat_i, cat_l]) rfl (by simp [g_cat_rf, cat_i, cat_l]) (fun G => (t_X10_isFitting_0 N A x0 x1 res h))
abbrev mX10_howManyFit : gM := gMk yX10_howManyFit cX10_howManyFit 3 (some .int)
def f_X10_howManyFit_23 (N : Nat) (r4 : hP → Option Nat → Int32 → Int32 → Option (Int32 × hP)) (A : hP) (x0 : Option Nat) (x1 : Int32) (x2 : Int32) : Option (Int32 × hP) := r4 A x0 x1 (x2 + (1 : Int32))
set_option maxRecDepth 20000 in
set_option maxHeartbeats 4000000 in
theorem t_X10_howManyFit_23 {l : Launch} {G : gS} (N : Nat) (r4 : hP → Option Nat → Int32 → Int32 → Option (Int32 × hP)) (hr4 : ∀ (A : hP) (x0 : Option Nat) (x1 : Int32) (x2 : Int32) (res : Int32 × hP), r4 A x0 x1 x2 = some res → AW l mX10_howManyFit (g_rm 3 0 0) G (g_Qf G (gi res) 0 0) A 0 0 4 [some (va_rf x0), some (.int x1), some (.int x2)] []) (A : hP) (x0 : Option Nat) (x1 : Int32) (x2 : Int32) (res : Int32 × hP) (h : f_X10_howManyFit_23 N r4 A x0 x1 x2 = some res) : AW l mX10_howManyFit (g_rm 3 0 0) G (g_Qf G (gi res) 0 0) A 0 0 23 [some (va_rf x0), some (.int x1), some (.int x2)] [] := by
  unfold f_X10_howManyFit_23 at h
  refine AW_iinc (v := 1) (ls' := [some (va_rf x0), some (.int x1), some (.int (x2 + (1 : Int32)))]) dX10_howManyFit_23 rfl (c1_i rfl) (by decide) (by decide) rfl ?_
  refine AW_goto (tgt := 4) dX10_howManyFit_26 (by decide) ?_
  exact (hr4 _ _ _ _ _ h)
def f_X10_howManyFit_4 (N : Nat) : Nat → hP → Option Nat → Int32 → Int32 → Option (Int32 × hP)
  | 0, _, _, _, _ => none
  | n + 1, A, x0, x1, x2 => (oI A x0 9 7).bind fun v1 => if v1 ≤ x2 then (some (x1, A)) else ((oCk A x0 9).bind fun _ => (f_X10_isFitting N A x0 x2).bind fun q2 => if q2.1 = (0) then (f_X10_howManyFit_23 N (f_X10_howManyFit_4 N n) q2.2 x0 x1 x2) else (f_X10_howManyFit_23 N (f_X10_howManyFit_4 N n) q2.2 x0 (x1 + (1 : Int32)) x2))
set_option maxRecDepth 20000 in
set_option maxHeartbeats 4000000 in
theorem t_X10_howManyFit_4 {l : Launch} {G : gS} (N : Nat) : ∀ (n : Nat) (A : hP) (x0 : Option Nat) (x1 : Int32) (x2 : Int32) (res : Int32 × hP), f_X10_howManyFit_4 N n A x0 x1 x2 = some res → AW l mX10_howManyFit (g_rm 3 0 0) G (g_Qf G (gi res) 0 0) A 0 0 4 [some (va_rf x0), some (.int x1), some (.int x2)] [] := by
  intro n
  induction n with
  | zero => intro A x0 x1 x2 res h; cases h
  | succ n ih =>
    intro A x0 x1 x2 res h
    rw [f_X10_howManyFit_4] at h
    refine AW_iload_n dX10_howManyFit_4 rfl ?_
    refine AW_aload_n dX10_howManyFit_5 rfl ?_
    refine AW_getI (ci := 9) (k0 := 7) (C := RX10) (T := TX10) (N := 13) dX10_howManyFit_6 rfl (gT_u tU_X10) (by decide) (List.mem_cons_of_mem _ tF_X10_55) h (fun v1 _ h => ?_)
    refine AW_icmp_ge (tgt := 29) dX10_howManyFit_9 (by decide) h (fun _ h => ?_) (fun _ h => ?_)
    · refine AW_iload_n dX10_howManyFit_29 rfl ?_
      exact AW_iret dX10_howManyFit_30 rfl ⟨Nat.zero_le _, Nat.zero_le _⟩ h
    · refine AW_aload_n dX10_howManyFit_12 rfl ?_
      refine AW_iload_n dX10_howManyFit_13 rfl ?_
      refine AW_callVi (y := yX10_isFitting) (cc := cX10_isFitting) (n := 3) (d := 2) (mc := 0) (ms := 0) (np := 1) (ret := (some .boolean)) (As := [.int x2]) (st := []) (ci := 9) dX10_howManyFit_14 gT_s rfl tM_X10_96 tI_X10_isFitting selp_X10_isFitting tIni_X10 tY_X10_isFitting (by decide +kernel) ⟨by decide, by decide⟩ ⟨by decide, by decide⟩ (Nat.le_of_ble_eq_true rfl) rfl h (fun q hq => c_X10_isFitting N _ _ _ q hq) (fun q2 _ h => ?_)
      refine AW_if_eq (tgt := 23) dX10_howManyFit_17 (by decide) h (fun _ h => ?_) (fun _ h => ?_)
      · exact (t_X10_howManyFit_23 N (f_X10_howManyFit_4 N n) ih _ _ _ _ _ h)
      · refine AW_iinc (v := 1) (ls' := [some (va_rf x0), some (.int (x1 + (1 : Int32))), some (.int x2)]) dX10_howManyFit_20 rfl (c1_r rfl) (by decide) (by decide) rfl ?_
        exact (t_X10_howManyFit_23 N (f_X10_howManyFit_4 N n) ih _ _ _ _ _ h)
def f_X10_howManyFit_0 (N : Nat) (A : hP) (x0 : Option Nat) : Option (Int32 × hP) := f_X10_howManyFit_4 N N A x0 (0 : Int32) (0 : Int32)
set_option maxRecDepth 20000 in
set_option maxHeartbeats 4000000 in
theorem t_X10_howManyFit_0 {l : Launch} {G : gS} (N : Nat) (A : hP) (x0 : Option Nat) (res : Int32 × hP) (h : f_X10_howManyFit_0 N A x0 = some res) : AW l mX10_howManyFit (g_rm 3 0 0) G (g_Qf G (gi res) 0 0) A 0 0 0 [some (va_rf x0), none, none] [] := by
  unfold f_X10_howManyFit_0 at h
  refine AW_iconst (v := 0) dX10_howManyFit_0 (by decide) ?_
  refine AW_istore_n (ls' := [some (va_rf x0), some (.int (0 : Int32)), none]) dX10_howManyFit_1 (c1_r rfl) (by decide) rfl ?_
  refine AW_iconst (v := 0) dX10_howManyFit_2 (by decide) ?_
  refine AW_istore_n (ls' := [some (va_rf x0), some (.int (0 : Int32)), some (.int (0 : Int32))]) dX10_howManyFit_3 (c1_i rfl) (by decide) rfl ?_
  exact (t_X10_howManyFit_4 N N _ _ _ _ _ h)
def f_X10_howManyFit (N : Nat) (A : hP) (x0 : Option Nat) : Option (Int32 × hP) := f_X10_howManyFit_0 N A x0
set_option maxRecDepth 20000 in
theorem c_X10_howManyFit {l : Launch} (N : Nat) (A : hP) (x0 : Option Nat) (res : Int32 × hP) (h : f_X10_howManyFit N A x0 = some res) : Ct l mX10_howManyFit 3 0 0 A [va_rf x0] (gi res) := Ct.of (lv := [(0, va_rf x0)]) (ls := [some (va_rf x0), none, none]) (by decide) (by simp [lv_args, g_cat_rf, cat_i, cat_l]) rfl (by simp [g_cat_rf, cat_i, cat_l]) (fun G => (t_X10_howManyFit_0 N A x0 res h))
abbrev mX10_weightIn : gM := gMk yX10_weightIn cX10_weightIn 2 (some .int)
def f_X10_weightIn_0 (N : Nat) (A : hP) (x0 : Int32) (x1 : Int32) : Option (Int32 × hP) := some ((x0 >>> (((3 : Int32) * x1) &&& 31)) &&& (7 : Int32), A)
set_option maxRecDepth 20000 in
set_option maxHeartbeats 4000000 in
theorem t_X10_weightIn_0 {l : Launch} {G : gS} (N : Nat) (A : hP) (x0 : Int32) (x1 : Int32) (res : Int32 × hP) (h : f_X10_weightIn_0 N A x0 x1 = some res) : AW l mX10_weightIn (g_rm 0 0 0) G (g_Qf G (gi res) 0 0) A 0 0 0 [some (.int x0), some (.int x1)] [] := by
  unfold f_X10_weightIn_0 at h
  refine AW_iload_n dX10_weightIn_0 rfl ?_
  refine AW_iconst (v := 3) dX10_weightIn_1 (by decide) ?_
  refine AW_iload_n dX10_weightIn_2 rfl ?_
  refine AW_imul dX10_weightIn_3 ?_
  refine AW_ishr dX10_weightIn_4 ?_
  refine AW_bipush (v := 7) dX10_weightIn_5 (by decide) ?_
  refine AW_iand dX10_weightIn_7 ?_
  exact AW_iret dX10_weightIn_8 rfl ⟨Nat.zero_le _, Nat.zero_le _⟩ h
def f_X10_weightIn (N : Nat) (A : hP) (x0 : Int32) (x1 : Int32) : Option (Int32 × hP) := f_X10_weightIn_0 N A x0 x1
set_option maxRecDepth 20000 in
theorem c_X10_weightIn {l : Launch} (N : Nat) (A : hP) (x0 : Int32) (x1 : Int32) (res : Int32 × hP) (h : f_X10_weightIn N A x0 x1 = some res) : Ct l mX10_weightIn 0 0 0 A [.int x0, .int x1] (gi res) := Ct.of (lv := [(0, .int x0), (1, .int x1)]) (ls := [some (.int x0), some (.int x1)]) (by decide) (by simp [lv_args, g_cat_rf, cat_i, cat_l]) rfl (by simp [g_cat_rf, cat_i, cat_l]) (fun G => (t_X10_weightIn_0 N A x0 x1 res h))
abbrev mX10_howManyFitWith : gM := gMk yX10_howManyFitWith cX10_howManyFitWith 5 (some .int)
def f_X10_howManyFitWith_36 (N : Nat) (r5 : hP → Option Nat → Int32 → Int32 → Int32 → Int32 → Option (Int32 × hP)) (A : hP) (x0 : Option Nat) (x1 : Int32) (x2 : Int32) (x3 : Int32) (x4 : Int32) : Option (Int32 × hP) := r5 A x0 x1 x2 x3 (x4 + (1 : Int32))
set_option maxRecDepth 20000 in
set_option maxHeartbeats 4000000 in
theorem t_X10_howManyFitWith_36 {l : Launch} {G : gS} (N : Nat) (r5 : hP → Option Nat → Int32 → Int32 → Int32 → Int32 → Option (Int32 × hP)) (hr5 : ∀ (A : hP) (x0 : Option Nat) (x1 : Int32) (x2 : Int32) (x3 : Int32) (x4 : Int32) (res : Int32 × hP), r5 A x0 x1 x2 x3 x4 = some res → AW l mX10_howManyFitWith (g_rm 3 0 0) G (g_Qf G (gi res) 0 0) A 0 0 5 [some (va_rf x0), some (.int x1), some (.int x2), some (.int x3), some (.int x4)] []) (A : hP) (x0 : Option Nat) (x1 : Int32) (x2 : Int32) (x3 : Int32) (x4 : Int32) (res : Int32 × hP) (h : f_X10_howManyFitWith_36 N r5 A x0 x1 x2 x3 x4 = some res) : AW l mX10_howManyFitWith (g_rm 3 0 0) G (g_Qf G (gi res) 0 0) A 0 0 36 [some (va_rf x0), some (.int x1), some (.int x2), some (.int x3), some (.int x4)] [] := by
  unfold f_X10_howManyFitWith_36 at h
  refine AW_iinc (v := 1) (ls' := [some (va_rf x0), some (.int x1), some (.int x2), some (.int x3), some (.int (x4 + (1 : Int32)))]) dX10_howManyFitWith_36 rfl (c1_i rfl) (by decide) (by decide) rfl ?_
  refine AW_goto (tgt := 5) dX10_howManyFitWith_39 (by decide) ?_
  exact (hr5 _ _ _ _ _ _ _ h)
def f_X10_howManyFitWith_5 (N : Nat) : Nat → hP → Option Nat → Int32 → Int32 → Int32 → Int32 → Option (Int32 × hP)
  | 0, _, _, _, _, _, _ => none
  | n + 1, A, x0, x1, x2, x3, x4 => (oI A x0 9 7).bind fun v1 => if v1 ≤ x4 then (some (x3, A)) else ((f_X10_weightIn N A x4 x1).bind fun q2 => if q2.1 = x2 then ((oCk q2.2 x0 9).bind fun _ => (f_X10_isFitting N q2.2 x0 x4).bind fun q3 => if q3.1 = (0) then (f_X10_howManyFitWith_36 N (f_X10_howManyFitWith_5 N n) q3.2 x0 x1 x2 x3 x4) else (f_X10_howManyFitWith_36 N (f_X10_howManyFitWith_5 N n) q3.2 x0 x1 x2 (x3 + (1 : Int32)) x4)) else (f_X10_howManyFitWith_36 N (f_X10_howManyFitWith_5 N n) q2.2 x0 x1 x2 x3 x4))
set_option maxRecDepth 20000 in
set_option maxHeartbeats 4000000 in
theorem t_X10_howManyFitWith_5 {l : Launch} {G : gS} (N : Nat) : ∀ (n : Nat) (A : hP) (x0 : Option Nat) (x1 : Int32) (x2 : Int32) (x3 : Int32) (x4 : Int32) (res : Int32 × hP), f_X10_howManyFitWith_5 N n A x0 x1 x2 x3 x4 = some res → AW l mX10_howManyFitWith (g_rm 3 0 0) G (g_Qf G (gi res) 0 0) A 0 0 5 [some (va_rf x0), some (.int x1), some (.int x2), some (.int x3), some (.int x4)] [] := by
  intro n
  induction n with
  | zero => intro A x0 x1 x2 x3 x4 res h; cases h
  | succ n ih =>
    intro A x0 x1 x2 x3 x4 res h
    rw [f_X10_howManyFitWith_5] at h
    refine AW_iload dX10_howManyFitWith_5 rfl ?_
    refine AW_aload_n dX10_howManyFitWith_7 rfl ?_
    refine AW_getI (ci := 9) (k0 := 7) (C := RX10) (T := TX10) (N := 13) dX10_howManyFitWith_8 rfl (gT_u tU_X10) (by decide) (List.mem_cons_of_mem _ tF_X10_55) h (fun v1 _ h => ?_)
    refine AW_icmp_ge (tgt := 42) dX10_howManyFitWith_11 (by decide) h (fun _ h => ?_) (fun _ h => ?_)
    · refine AW_iload_n dX10_howManyFitWith_42 rfl ?_
      exact AW_iret dX10_howManyFitWith_43 rfl ⟨Nat.zero_le _, Nat.zero_le _⟩ h
    · refine AW_iload dX10_howManyFitWith_14 rfl ?_
      refine AW_iload_n dX10_howManyFitWith_16 rfl ?_
      refine AW_callSi (y := yX10_weightIn) (cc := cX10_weightIn) (n := 2) (d := 0) (mc := 0) (ms := 0) (np := 2) (ret := (some .int)) (As := [.int x4, .int x1]) (st := []) dX10_howManyFitWith_17 gT_s tM_X10_100 tS_X10_weightIn tIni_X10 tY_X10_weightIn (by decide +kernel) ⟨by decide, by decide⟩ ⟨by decide, by decide⟩ (Nat.le_of_ble_eq_true rfl) rfl h (fun q hq => c_X10_weightIn N _ _ _ q hq) (fun q2 _ h => ?_)
      refine AW_iload_n dX10_howManyFitWith_20 rfl ?_
      refine AW_icmp_ne (tgt := 36) dX10_howManyFitWith_21 (by decide) h (fun _ h => ?_) (fun _ h => ?_)
      · exact (t_X10_howManyFitWith_36 N (f_X10_howManyFitWith_5 N n) ih _ _ _ _ _ _ _ h)
      · refine AW_aload_n dX10_howManyFitWith_24 rfl ?_
        refine AW_iload dX10_howManyFitWith_25 rfl ?_
        refine AW_callVi (y := yX10_isFitting) (cc := cX10_isFitting) (n := 3) (d := 2) (mc := 0) (ms := 0) (np := 1) (ret := (some .boolean)) (As := [.int x4]) (st := []) (ci := 9) dX10_howManyFitWith_27 gT_s rfl tM_X10_96 tI_X10_isFitting selp_X10_isFitting tIni_X10 tY_X10_isFitting (by decide +kernel) ⟨by decide, by decide⟩ ⟨by decide, by decide⟩ (Nat.le_of_ble_eq_true rfl) rfl h (fun q hq => c_X10_isFitting N _ _ _ q hq) (fun q3 _ h => ?_)
        refine AW_if_eq (tgt := 36) dX10_howManyFitWith_30 (by decide) h (fun _ h => ?_) (fun _ h => ?_)
        · exact (t_X10_howManyFitWith_36 N (f_X10_howManyFitWith_5 N n) ih _ _ _ _ _ _ _ h)
        · refine AW_iinc (v := 1) (ls' := [some (va_rf x0), some (.int x1), some (.int x2), some (.int (x3 + (1 : Int32))), some (.int x4)]) dX10_howManyFitWith_33 rfl (c1_i rfl) (by decide) (by decide) rfl ?_
          exact (t_X10_howManyFitWith_36 N (f_X10_howManyFitWith_5 N n) ih _ _ _ _ _ _ _ h)
def f_X10_howManyFitWith_0 (N : Nat) (A : hP) (x0 : Option Nat) (x1 : Int32) (x2 : Int32) : Option (Int32 × hP) := f_X10_howManyFitWith_5 N N A x0 x1 x2 (0 : Int32) (0 : Int32)
set_option maxRecDepth 20000 in
set_option maxHeartbeats 4000000 in
theorem t_X10_howManyFitWith_0 {l : Launch} {G : gS} (N : Nat) (A : hP) (x0 : Option Nat) (x1 : Int32) (x2 : Int32) (res : Int32 × hP) (h : f_X10_howManyFitWith_0 N A x0 x1 x2 = some res) : AW l mX10_howManyFitWith (g_rm 3 0 0) G (g_Qf G (gi res) 0 0) A 0 0 0 [some (va_rf x0), some (.int x1), some (.int x2), none, none] [] := by
  unfold f_X10_howManyFitWith_0 at h
  refine AW_iconst (v := 0) dX10_howManyFitWith_0 (by decide) ?_
  refine AW_istore_n (ls' := [some (va_rf x0), some (.int x1), some (.int x2), some (.int (0 : Int32)), none]) dX10_howManyFitWith_1 (c1_i rfl) (by decide) rfl ?_
  refine AW_iconst (v := 0) dX10_howManyFitWith_2 (by decide) ?_
  refine AW_istore (ls' := [some (va_rf x0), some (.int x1), some (.int x2), some (.int (0 : Int32)), some (.int (0 : Int32))]) dX10_howManyFitWith_3 (c1_i rfl) (by decide) rfl ?_
  exact (t_X10_howManyFitWith_5 N N _ _ _ _ _ _ _ h)
def f_X10_howManyFitWith (N : Nat) (A : hP) (x0 : Option Nat) (x1 : Int32) (x2 : Int32) : Option (Int32 × hP) := f_X10_howManyFitWith_0 N A x0 x1 x2
set_option maxRecDepth 20000 in
theorem c_X10_howManyFitWith {l : Launch} (N : Nat) (A : hP) (x0 : Option Nat) (x1 : Int32) (x2 : Int32) (res : Int32 × hP) (h : f_X10_howManyFitWith N A x0 x1 x2 = some res) : Ct l mX10_howManyFitWith 3 0 0 A [va_rf x0, .int x1, .int x2] (gi res) := Ct.of (lv := [(0, va_rf x0), (1, .int x1), (2, .int x2)]) (ls := [some (va_rf x0), some (.int x1), some (.int x2), none, none]) (by decide) (by simp [lv_args, g_cat_rf, cat_i, cat_l]) rfl (by simp [g_cat_rf, cat_i, cat_l]) (fun G => (t_X10_howManyFitWith_0 N A x0 x1 x2 res h))
abbrev mX10_sureWeight : gM := gMk yX10_sureWeight cX10_sureWeight 5 (some .int)
def f_X10_sureWeight_46 (N : Nat) (r5 : hP → Option Nat → Int32 → Int32 → Int32 → Option (Int32 × hP)) (A : hP) (x0 : Option Nat) (x1 : Int32) (x2 : Int32) (x3 : Int32) : Option (Int32 × hP) := r5 A x0 x1 x2 (x3 + (1 : Int32))
set_option maxRecDepth 20000 in
set_option maxHeartbeats 4000000 in
theorem t_X10_sureWeight_46 {l : Launch} {G : gS} (N : Nat) (r5 : hP → Option Nat → Int32 → Int32 → Int32 → Option (Int32 × hP)) (hr5 : ∀ (A : hP) (x0 : Option Nat) (x1 : Int32) (x2 : Int32) (x3 : Int32) (res : Int32 × hP), r5 A x0 x1 x2 x3 = some res → AW l mX10_sureWeight (g_rm 3 0 0) G (g_Qf G (gi res) 0 0) A 0 0 5 [some (va_rf x0), some (.int x1), some (.int x2), some (.int x3), none] []) (A : hP) (x0 : Option Nat) (x1 : Int32) (x2 : Int32) (x3 : Int32) (res : Int32 × hP) (h : f_X10_sureWeight_46 N r5 A x0 x1 x2 x3 = some res) : AW l mX10_sureWeight (g_rm 3 0 0) G (g_Qf G (gi res) 0 0) A 0 0 46 [some (va_rf x0), some (.int x1), some (.int x2), some (.int x3), none] [] := by
  unfold f_X10_sureWeight_46 at h
  refine AW_iinc (v := 1) (ls' := [some (va_rf x0), some (.int x1), some (.int x2), some (.int (x3 + (1 : Int32))), none]) dX10_sureWeight_46 rfl (c1_i rfl) (by decide) (by decide) rfl ?_
  refine AW_goto (tgt := 5) dX10_sureWeight_49 (by decide) ?_
  exact (hr5 _ _ _ _ _ _ h)
def f_X10_sureWeight_5 (N : Nat) : Nat → hP → Option Nat → Int32 → Int32 → Int32 → Option (Int32 × hP)
  | 0, _, _, _, _, _ => none
  | n + 1, A, x0, x1, x2, x3 => (oI A x0 9 7).bind fun v1 => if v1 ≤ x3 then (some (x2, A)) else ((f_X10_weightIn N A x3 x1).bind fun q2 => if q2.1 = x2 then (f_X10_sureWeight_46 N (f_X10_sureWeight_5 N n) q2.2 x0 x1 x2 x3) else ((oCk q2.2 x0 9).bind fun _ => (f_X10_isFitting N q2.2 x0 x3).bind fun q3 => if q3.1 = (0) then (f_X10_sureWeight_46 N (f_X10_sureWeight_5 N n) q3.2 x0 x1 x2 x3) else (if x2 = (-1000000 : Int32) then (f_X10_sureWeight_46 N (f_X10_sureWeight_5 N n) q3.2 x0 x1 q2.1 x3) else (some ((-1000000 : Int32), q3.2)))))
set_option maxRecDepth 20000 in
set_option maxHeartbeats 4000000 in
theorem t_X10_sureWeight_5 {l : Launch} {G : gS} (N : Nat) : ∀ (n : Nat) (A : hP) (x0 : Option Nat) (x1 : Int32) (x2 : Int32) (x3 : Int32) (res : Int32 × hP), f_X10_sureWeight_5 N n A x0 x1 x2 x3 = some res → AW l mX10_sureWeight (g_rm 3 0 0) G (g_Qf G (gi res) 0 0) A 0 0 5 [some (va_rf x0), some (.int x1), some (.int x2), some (.int x3), none] [] := by
  intro n
  induction n with
  | zero => intro A x0 x1 x2 x3 res h; cases h
  | succ n ih =>
    intro A x0 x1 x2 x3 res h
    rw [f_X10_sureWeight_5] at h
    refine AW_iload_n dX10_sureWeight_5 rfl ?_
    refine AW_aload_n dX10_sureWeight_6 rfl ?_
    refine AW_getI (ci := 9) (k0 := 7) (C := RX10) (T := TX10) (N := 13) dX10_sureWeight_7 rfl (gT_u tU_X10) (by decide) (List.mem_cons_of_mem _ tF_X10_55) h (fun v1 _ h => ?_)
    refine AW_icmp_ge (tgt := 52) dX10_sureWeight_10 (by decide) h (fun _ h => ?_) (fun _ h => ?_)
    · refine AW_iload_n dX10_sureWeight_52 rfl ?_
      exact AW_iret dX10_sureWeight_53 rfl ⟨Nat.zero_le _, Nat.zero_le _⟩ h
    · refine AW_iload_n dX10_sureWeight_13 rfl ?_
      refine AW_iload_n dX10_sureWeight_14 rfl ?_
      refine AW_callSi (y := yX10_weightIn) (cc := cX10_weightIn) (n := 2) (d := 0) (mc := 0) (ms := 0) (np := 2) (ret := (some .int)) (As := [.int x3, .int x1]) (st := []) dX10_sureWeight_15 gT_s tM_X10_100 tS_X10_weightIn tIni_X10 tY_X10_weightIn (by decide +kernel) ⟨by decide, by decide⟩ ⟨by decide, by decide⟩ (Nat.le_of_ble_eq_true rfl) rfl h (fun q hq => c_X10_weightIn N _ _ _ q hq) (fun q2 _ h => ?_)
      refine AW_istore (ls' := [some (va_rf x0), some (.int x1), some (.int x2), some (.int x3), some (.int q2.1)]) dX10_sureWeight_18 (c1_i rfl) (by decide) rfl ?_
      refine AW_iload dX10_sureWeight_20 rfl ?_
      refine AW_iload_n dX10_sureWeight_22 rfl ?_
      refine AW_icmp_eq (tgt := 46) dX10_sureWeight_23 (by decide) h (fun _ h => ?_) (fun _ h => ?_)
      · exact AW_fewer (fw_k (fw_k (fw_k (fw_k (fw_d fw_n))))) (t_X10_sureWeight_46 N (f_X10_sureWeight_5 N n) ih _ _ _ _ _ _ h)
      · refine AW_aload_n dX10_sureWeight_26 rfl ?_
        refine AW_iload_n dX10_sureWeight_27 rfl ?_
        refine AW_callVi (y := yX10_isFitting) (cc := cX10_isFitting) (n := 3) (d := 2) (mc := 0) (ms := 0) (np := 1) (ret := (some .boolean)) (As := [.int x3]) (st := []) (ci := 9) dX10_sureWeight_28 gT_s rfl tM_X10_96 tI_X10_isFitting selp_X10_isFitting tIni_X10 tY_X10_isFitting (by decide +kernel) ⟨by decide, by decide⟩ ⟨by decide, by decide⟩ (Nat.le_of_ble_eq_true rfl) rfl h (fun q hq => c_X10_isFitting N _ _ _ q hq) (fun q3 _ h => ?_)
        refine AW_if_eq (tgt := 46) dX10_sureWeight_31 (by decide) h (fun _ h => ?_) (fun _ h => ?_)
        · exact AW_fewer (fw_k (fw_k (fw_k (fw_k (fw_d fw_n))))) (t_X10_sureWeight_46 N (f_X10_sureWeight_5 N n) ih _ _ _ _ _ _ h)
        · refine AW_iload_n dX10_sureWeight_34 rfl ?_
          refine AW_ldc (v := -1000000) dX10_sureWeight_35 (List.mem_cons_of_mem _ tK_X10_103) ?_
          refine AW_icmp_eq (tgt := 43) dX10_sureWeight_37 (by decide) h (fun _ h => ?_) (fun _ h => ?_)
          · refine AW_iload dX10_sureWeight_43 rfl ?_
            refine AW_istore_n (ls' := [some (va_rf x0), some (.int x1), some (.int q2.1), some (.int x3), some (.int q2.1)]) dX10_sureWeight_45 (c1_i rfl) (by decide) rfl ?_
            exact AW_fewer (fw_k (fw_k (fw_k (fw_k (fw_d fw_n))))) (t_X10_sureWeight_46 N (f_X10_sureWeight_5 N n) ih _ _ _ _ _ _ h)
          · refine AW_ldc (v := -1000000) dX10_sureWeight_40 (List.mem_cons_of_mem _ tK_X10_103) ?_
            exact AW_iret dX10_sureWeight_42 rfl ⟨Nat.zero_le _, Nat.zero_le _⟩ h
def f_X10_sureWeight_0 (N : Nat) (A : hP) (x0 : Option Nat) (x1 : Int32) : Option (Int32 × hP) := f_X10_sureWeight_5 N N A x0 x1 (-1000000 : Int32) (0 : Int32)
set_option maxRecDepth 20000 in
set_option maxHeartbeats 4000000 in
theorem t_X10_sureWeight_0 {l : Launch} {G : gS} (N : Nat) (A : hP) (x0 : Option Nat) (x1 : Int32) (res : Int32 × hP) (h : f_X10_sureWeight_0 N A x0 x1 = some res) : AW l mX10_sureWeight (g_rm 3 0 0) G (g_Qf G (gi res) 0 0) A 0 0 0 [some (va_rf x0), some (.int x1), none, none, none] [] := by
  unfold f_X10_sureWeight_0 at h
  refine AW_ldc (v := -1000000) dX10_sureWeight_0 (List.mem_cons_of_mem _ tK_X10_103) ?_
  refine AW_istore_n (ls' := [some (va_rf x0), some (.int x1), some (.int (-1000000 : Int32)), none, none]) dX10_sureWeight_2 (c1_i rfl) (by decide) rfl ?_
  refine AW_iconst (v := 0) dX10_sureWeight_3 (by decide) ?_
  refine AW_istore_n (ls' := [some (va_rf x0), some (.int x1), some (.int (-1000000 : Int32)), some (.int (0 : Int32)), none]) dX10_sureWeight_4 (c1_i rfl) (by decide) rfl ?_
  exact (t_X10_sureWeight_5 N N _ _ _ _ _ _ h)
def f_X10_sureWeight (N : Nat) (A : hP) (x0 : Option Nat) (x1 : Int32) : Option (Int32 × hP) := f_X10_sureWeight_0 N A x0 x1
set_option maxRecDepth 20000 in
theorem c_X10_sureWeight {l : Launch} (N : Nat) (A : hP) (x0 : Option Nat) (x1 : Int32) (res : Int32 × hP) (h : f_X10_sureWeight N A x0 x1 = some res) : Ct l mX10_sureWeight 3 0 0 A [va_rf x0, .int x1] (gi res) := Ct.of (lv := [(0, va_rf x0), (1, .int x1)]) (ls := [some (va_rf x0), some (.int x1), none, none, none]) (by decide) (by simp [lv_args, g_cat_rf, cat_i, cat_l]) rfl (by simp [g_cat_rf, cat_i, cat_l]) (fun G => (t_X10_sureWeight_0 N A x0 x1 res h))
abbrev mX10_sureShown : gM := gMk yX10_sureShown cX10_sureShown 5 (some .int)
def f_X10_sureShown_47 (N : Nat) (r5 : hP → Option Nat → Int32 → Int32 → Int32 → Option (Int32 × hP)) (A : hP) (x0 : Option Nat) (x1 : Int32) (x2 : Int32) (x3 : Int32) : Option (Int32 × hP) := r5 A x0 x1 x2 (x3 + (1 : Int32))
set_option maxRecDepth 20000 in
set_option maxHeartbeats 4000000 in
theorem t_X10_sureShown_47 {l : Launch} {G : gS} (N : Nat) (r5 : hP → Option Nat → Int32 → Int32 → Int32 → Option (Int32 × hP)) (hr5 : ∀ (A : hP) (x0 : Option Nat) (x1 : Int32) (x2 : Int32) (x3 : Int32) (res : Int32 × hP), r5 A x0 x1 x2 x3 = some res → AW l mX10_sureShown (g_rm 3 0 0) G (g_Qf G (gi res) 0 0) A 0 0 5 [some (va_rf x0), some (.int x1), some (.int x2), some (.int x3), none] []) (A : hP) (x0 : Option Nat) (x1 : Int32) (x2 : Int32) (x3 : Int32) (res : Int32 × hP) (h : f_X10_sureShown_47 N r5 A x0 x1 x2 x3 = some res) : AW l mX10_sureShown (g_rm 3 0 0) G (g_Qf G (gi res) 0 0) A 0 0 47 [some (va_rf x0), some (.int x1), some (.int x2), some (.int x3), none] [] := by
  unfold f_X10_sureShown_47 at h
  refine AW_iinc (v := 1) (ls' := [some (va_rf x0), some (.int x1), some (.int x2), some (.int (x3 + (1 : Int32))), none]) dX10_sureShown_47 rfl (c1_i rfl) (by decide) (by decide) rfl ?_
  refine AW_goto (tgt := 5) dX10_sureShown_50 (by decide) ?_
  exact (hr5 _ _ _ _ _ _ h)
def f_X10_sureShown_44 (N : Nat) (r5 : hP → Option Nat → Int32 → Int32 → Int32 → Option (Int32 × hP)) (A : hP) (x0 : Option Nat) (x1 : Int32) (x3 : Int32) (x4 : Int32) : Option (Int32 × hP) := f_X10_sureShown_47 N r5 A x0 x1 x4 x3
set_option maxRecDepth 20000 in
set_option maxHeartbeats 4000000 in
theorem t_X10_sureShown_44 {l : Launch} {G : gS} (N : Nat) (r5 : hP → Option Nat → Int32 → Int32 → Int32 → Option (Int32 × hP)) (hr5 : ∀ (A : hP) (x0 : Option Nat) (x1 : Int32) (x2 : Int32) (x3 : Int32) (res : Int32 × hP), r5 A x0 x1 x2 x3 = some res → AW l mX10_sureShown (g_rm 3 0 0) G (g_Qf G (gi res) 0 0) A 0 0 5 [some (va_rf x0), some (.int x1), some (.int x2), some (.int x3), none] []) (A : hP) (x0 : Option Nat) (x1 : Int32) (x3 : Int32) (x4 : Int32) (res : Int32 × hP) (h : f_X10_sureShown_44 N r5 A x0 x1 x3 x4 = some res) : AW l mX10_sureShown (g_rm 3 0 0) G (g_Qf G (gi res) 0 0) A 0 0 44 [some (va_rf x0), some (.int x1), none, some (.int x3), some (.int x4)] [] := by
  unfold f_X10_sureShown_44 at h
  refine AW_iload dX10_sureShown_44 rfl ?_
  refine AW_istore_n (ls' := [some (va_rf x0), some (.int x1), some (.int x4), some (.int x3), some (.int x4)]) dX10_sureShown_46 (c1_i rfl) (by decide) rfl ?_
  exact AW_fewer (fw_k (fw_k (fw_k (fw_k (fw_d fw_n))))) (t_X10_sureShown_47 N r5 hr5 _ _ _ _ _ _ h)
def f_X10_sureShown_5 (N : Nat) : Nat → hP → Option Nat → Int32 → Int32 → Int32 → Option (Int32 × hP)
  | 0, _, _, _, _, _ => none
  | n + 1, A, x0, x1, x2, x3 => (oI A x0 9 7).bind fun v1 => if v1 ≤ x3 then (some (x2, A)) else ((oCk A x0 9).bind fun _ => (f_X10_isFitting N A x0 x3).bind fun q2 => if q2.1 = (0) then (f_X10_sureShown_47 N (f_X10_sureShown_5 N n) q2.2 x0 x1 x2 x3) else ((oCk q2.2 x0 9).bind fun _ => (f_X10_shownIn N q2.2 x0 x3 x1).bind fun q3 => if x2 = (-1000000 : Int32) then (f_X10_sureShown_44 N (f_X10_sureShown_5 N n) q3.2 x0 x1 x3 q3.1) else (if x2 = q3.1 then (f_X10_sureShown_44 N (f_X10_sureShown_5 N n) q3.2 x0 x1 x3 q3.1) else (some ((-1000000 : Int32), q3.2)))))
set_option maxRecDepth 20000 in
set_option maxHeartbeats 4000000 in
theorem t_X10_sureShown_5 {l : Launch} {G : gS} (N : Nat) : ∀ (n : Nat) (A : hP) (x0 : Option Nat) (x1 : Int32) (x2 : Int32) (x3 : Int32) (res : Int32 × hP), f_X10_sureShown_5 N n A x0 x1 x2 x3 = some res → AW l mX10_sureShown (g_rm 3 0 0) G (g_Qf G (gi res) 0 0) A 0 0 5 [some (va_rf x0), some (.int x1), some (.int x2), some (.int x3), none] [] := by
  intro n
  induction n with
  | zero => intro A x0 x1 x2 x3 res h; cases h
  | succ n ih =>
    intro A x0 x1 x2 x3 res h
    rw [f_X10_sureShown_5] at h
    refine AW_iload_n dX10_sureShown_5 rfl ?_
    refine AW_aload_n dX10_sureShown_6 rfl ?_
    refine AW_getI (ci := 9) (k0 := 7) (C := RX10) (T := TX10) (N := 13) dX10_sureShown_7 rfl (gT_u tU_X10) (by decide) (List.mem_cons_of_mem _ tF_X10_55) h (fun v1 _ h => ?_)
    refine AW_icmp_ge (tgt := 53) dX10_sureShown_10 (by decide) h (fun _ h => ?_) (fun _ h => ?_)
    · refine AW_iload_n dX10_sureShown_53 rfl ?_
      exact AW_iret dX10_sureShown_54 rfl ⟨Nat.zero_le _, Nat.zero_le _⟩ h
    · refine AW_aload_n dX10_sureShown_13 rfl ?_
      refine AW_iload_n dX10_sureShown_14 rfl ?_
      refine AW_callVi (y := yX10_isFitting) (cc := cX10_isFitting) (n := 3) (d := 2) (mc := 0) (ms := 0) (np := 1) (ret := (some .boolean)) (As := [.int x3]) (st := []) (ci := 9) dX10_sureShown_15 gT_s rfl tM_X10_96 tI_X10_isFitting selp_X10_isFitting tIni_X10 tY_X10_isFitting (by decide +kernel) ⟨by decide, by decide⟩ ⟨by decide, by decide⟩ (Nat.le_of_ble_eq_true rfl) rfl h (fun q hq => c_X10_isFitting N _ _ _ q hq) (fun q2 _ h => ?_)
      refine AW_if_eq (tgt := 47) dX10_sureShown_18 (by decide) h (fun _ h => ?_) (fun _ h => ?_)
      · exact (t_X10_sureShown_47 N (f_X10_sureShown_5 N n) ih _ _ _ _ _ _ h)
      · refine AW_aload_n dX10_sureShown_21 rfl ?_
        refine AW_iload_n dX10_sureShown_22 rfl ?_
        refine AW_iload_n dX10_sureShown_23 rfl ?_
        refine AW_callVi (y := yX10_shownIn) (cc := cX10_shownIn) (n := 9) (d := 1) (mc := 0) (ms := 0) (np := 2) (ret := (some .int)) (As := [.int x3, .int x1]) (st := []) (ci := 9) dX10_sureShown_24 gT_s rfl tM_X10_93 tI_X10_shownIn selp_X10_shownIn tIni_X10 tY_X10_shownIn (by decide +kernel) ⟨by decide, by decide⟩ ⟨by decide, by decide⟩ (Nat.le_of_ble_eq_true rfl) rfl h (fun q hq => c_X10_shownIn N _ _ _ _ q hq) (fun q3 _ h => ?_)
        refine AW_istore (ls' := [some (va_rf x0), some (.int x1), some (.int x2), some (.int x3), some (.int q3.1)]) dX10_sureShown_27 (c1_i rfl) (by decide) rfl ?_
        refine AW_iload_n dX10_sureShown_29 rfl ?_
        refine AW_ldc (v := -1000000) dX10_sureShown_30 (List.mem_cons_of_mem _ tK_X10_103) ?_
        refine AW_icmp_eq (tgt := 44) dX10_sureShown_32 (by decide) h (fun _ h => ?_) (fun _ h => ?_)
        · exact AW_fewer (fw_k (fw_k (fw_d (fw_k (fw_k fw_n))))) (t_X10_sureShown_44 N (f_X10_sureShown_5 N n) ih _ _ _ _ _ _ h)
        · refine AW_iload_n dX10_sureShown_35 rfl ?_
          refine AW_iload dX10_sureShown_36 rfl ?_
          refine AW_icmp_eq (tgt := 44) dX10_sureShown_38 (by decide) h (fun _ h => ?_) (fun _ h => ?_)
          · exact AW_fewer (fw_k (fw_k (fw_d (fw_k (fw_k fw_n))))) (t_X10_sureShown_44 N (f_X10_sureShown_5 N n) ih _ _ _ _ _ _ h)
          · refine AW_ldc (v := -1000000) dX10_sureShown_41 (List.mem_cons_of_mem _ tK_X10_103) ?_
            exact AW_iret dX10_sureShown_43 rfl ⟨Nat.zero_le _, Nat.zero_le _⟩ h
def f_X10_sureShown_0 (N : Nat) (A : hP) (x0 : Option Nat) (x1 : Int32) : Option (Int32 × hP) := f_X10_sureShown_5 N N A x0 x1 (-1000000 : Int32) (0 : Int32)
set_option maxRecDepth 20000 in
set_option maxHeartbeats 4000000 in
theorem t_X10_sureShown_0 {l : Launch} {G : gS} (N : Nat) (A : hP) (x0 : Option Nat) (x1 : Int32) (res : Int32 × hP) (h : f_X10_sureShown_0 N A x0 x1 = some res) : AW l mX10_sureShown (g_rm 3 0 0) G (g_Qf G (gi res) 0 0) A 0 0 0 [some (va_rf x0), some (.int x1), none, none, none] [] := by
  unfold f_X10_sureShown_0 at h
  refine AW_ldc (v := -1000000) dX10_sureShown_0 (List.mem_cons_of_mem _ tK_X10_103) ?_
  refine AW_istore_n (ls' := [some (va_rf x0), some (.int x1), some (.int (-1000000 : Int32)), none, none]) dX10_sureShown_2 (c1_i rfl) (by decide) rfl ?_
  refine AW_iconst (v := 0) dX10_sureShown_3 (by decide) ?_
  refine AW_istore_n (ls' := [some (va_rf x0), some (.int x1), some (.int (-1000000 : Int32)), some (.int (0 : Int32)), none]) dX10_sureShown_4 (c1_i rfl) (by decide) rfl ?_
  exact (t_X10_sureShown_5 N N _ _ _ _ _ _ h)
def f_X10_sureShown (N : Nat) (A : hP) (x0 : Option Nat) (x1 : Int32) : Option (Int32 × hP) := f_X10_sureShown_0 N A x0 x1
set_option maxRecDepth 20000 in
theorem c_X10_sureShown {l : Launch} (N : Nat) (A : hP) (x0 : Option Nat) (x1 : Int32) (res : Int32 × hP) (h : f_X10_sureShown N A x0 x1 = some res) : Ct l mX10_sureShown 3 0 0 A [va_rf x0, .int x1] (gi res) := Ct.of (lv := [(0, va_rf x0), (1, .int x1)]) (ls := [some (va_rf x0), some (.int x1), none, none, none]) (by decide) (by simp [lv_args, g_cat_rf, cat_i, cat_l]) rfl (by simp [g_cat_rf, cat_i, cat_l]) (fun G => (t_X10_sureShown_0 N A x0 x1 res h))
abbrev mX10_falseIn : gM := gMk yX10_falseIn cX10_falseIn 6 (some .int)
def f_X10_falseIn_61 (N : Nat) (r8 : hP → Option Nat → Int32 → Int32 → Int32 → Int32 → Int32 → Option (Int32 × hP)) (A : hP) (x0 : Option Nat) (x1 : Int32) (x2 : Int32) (x3 : Int32) (x4 : Int32) (x5 : Int32) : Option (Int32 × hP) := r8 A x0 x1 x2 x3 x4 (x5 + (1 : Int32))
set_option maxRecDepth 20000 in
set_option maxHeartbeats 4000000 in
theorem t_X10_falseIn_61 {l : Launch} {G : gS} (N : Nat) (r8 : hP → Option Nat → Int32 → Int32 → Int32 → Int32 → Int32 → Option (Int32 × hP)) (hr8 : ∀ (A : hP) (x0 : Option Nat) (x1 : Int32) (x2 : Int32) (x3 : Int32) (x4 : Int32) (x5 : Int32) (res : Int32 × hP), r8 A x0 x1 x2 x3 x4 x5 = some res → AW l mX10_falseIn (g_rm 2 0 0) G (g_Qf G (gi res) 0 0) A 0 0 8 [some (va_rf x0), some (.int x1), some (.int x2), some (.int x3), some (.int x4), some (.int x5)] []) (A : hP) (x0 : Option Nat) (x1 : Int32) (x2 : Int32) (x3 : Int32) (x4 : Int32) (x5 : Int32) (res : Int32 × hP) (h : f_X10_falseIn_61 N r8 A x0 x1 x2 x3 x4 x5 = some res) : AW l mX10_falseIn (g_rm 2 0 0) G (g_Qf G (gi res) 0 0) A 0 0 61 [some (va_rf x0), some (.int x1), some (.int x2), some (.int x3), some (.int x4), some (.int x5)] [] := by
  unfold f_X10_falseIn_61 at h
  refine AW_iinc (v := 1) (ls' := [some (va_rf x0), some (.int x1), some (.int x2), some (.int x3), some (.int x4), some (.int (x5 + (1 : Int32)))]) dX10_falseIn_61 rfl (c1_i rfl) (by decide) (by decide) rfl ?_
  refine AW_goto (tgt := 8) dX10_falseIn_64 (by decide) ?_
  exact (hr8 _ _ _ _ _ _ _ _ h)
def f_X10_falseIn_67 (N : Nat) (A : hP) (x3 : Int32) : Option (Int32 × hP) := some (x3, A)
set_option maxRecDepth 20000 in
set_option maxHeartbeats 4000000 in
theorem t_X10_falseIn_67 {l : Launch} {G : gS} (N : Nat) (A : hP) (x3 : Int32) (res : Int32 × hP) (h : f_X10_falseIn_67 N A x3 = some res) : AW l mX10_falseIn (g_rm 2 0 0) G (g_Qf G (gi res) 0 0) A 0 0 67 [none, none, none, some (.int x3), none, none] [] := by
  unfold f_X10_falseIn_67 at h
  refine AW_iload_n dX10_falseIn_67 rfl ?_
  exact AW_iret dX10_falseIn_68 rfl ⟨Nat.zero_le _, Nat.zero_le _⟩ h
def f_X10_falseIn_8 (N : Nat) : Nat → hP → Option Nat → Int32 → Int32 → Int32 → Int32 → Int32 → Option (Int32 × hP)
  | 0, _, _, _, _, _, _, _ => none
  | n + 1, A, x0, x1, x2, x3, x4, x5 => (oI A x0 9 6).bind fun v1 => if v1 ≤ x5 then (f_X10_falseIn_67 N A x3) else (if x2 < x4 then (f_X10_falseIn_67 N A x3) else ((oR A x0 9 11).bind fun v2 => (oA A v2 0 x5).bind fun v3 => if v3 = (-1 : Int32) then (f_X10_falseIn_61 N (f_X10_falseIn_8 N n) A x0 x1 x2 x3 x4 x5) else ((oR A x0 9 11).bind fun v4 => (oA A v4 0 x5).bind fun v5 => (oCk A x0 9).bind fun _ => (f_X10_shownIn N A x0 x1 x5).bind fun q6 => if v5 = q6.1 then (f_X10_falseIn_61 N (f_X10_falseIn_8 N n) q6.2 x0 x1 x2 x3 x4 x5) else (f_X10_falseIn_61 N (f_X10_falseIn_8 N n) q6.2 x0 x1 x2 (x3 ||| ((1 : Int32) <<< (x5 &&& 31))) (x4 + (1 : Int32)) x5))))
set_option maxRecDepth 20000 in
set_option maxHeartbeats 4000000 in
theorem t_X10_falseIn_8 {l : Launch} {G : gS} (N : Nat) : ∀ (n : Nat) (A : hP) (x0 : Option Nat) (x1 : Int32) (x2 : Int32) (x3 : Int32) (x4 : Int32) (x5 : Int32) (res : Int32 × hP), f_X10_falseIn_8 N n A x0 x1 x2 x3 x4 x5 = some res → AW l mX10_falseIn (g_rm 2 0 0) G (g_Qf G (gi res) 0 0) A 0 0 8 [some (va_rf x0), some (.int x1), some (.int x2), some (.int x3), some (.int x4), some (.int x5)] [] := by
  intro n
  induction n with
  | zero => intro A x0 x1 x2 x3 x4 x5 res h; cases h
  | succ n ih =>
    intro A x0 x1 x2 x3 x4 x5 res h
    rw [f_X10_falseIn_8] at h
    refine AW_iload dX10_falseIn_8 rfl ?_
    refine AW_aload_n dX10_falseIn_10 rfl ?_
    refine AW_getI (ci := 9) (k0 := 6) (C := RX10) (T := TX10) (N := 13) dX10_falseIn_11 rfl (gT_u tU_X10) (by decide) (List.mem_cons_of_mem _ tF_X10_31) h (fun v1 _ h => ?_)
    refine AW_icmp_ge (tgt := 67) dX10_falseIn_14 (by decide) h (fun _ h => ?_) (fun _ h => ?_)
    · exact AW_fewer (fw_d (fw_d (fw_d (fw_k (fw_d (fw_d fw_n)))))) (t_X10_falseIn_67 N _ _ _ h)
    · refine AW_iload dX10_falseIn_17 rfl ?_
      refine AW_iload_n dX10_falseIn_19 rfl ?_
      refine AW_icmp_gt (tgt := 67) dX10_falseIn_20 (by decide) h (fun _ h => ?_) (fun _ h => ?_)
      · exact AW_fewer (fw_d (fw_d (fw_d (fw_k (fw_d (fw_d fw_n)))))) (t_X10_falseIn_67 N _ _ _ h)
      · refine AW_aload_n dX10_falseIn_23 rfl ?_
        refine AW_getR (ci := 9) (k0 := 11) (C := RX10) (T := TX10) (N := 13) dX10_falseIn_24 rfl (gT_u tU_X10) (by decide) (List.mem_cons_of_mem _ tF_X10_21) h (fun v2 _ h => ?_)
        refine AW_iload dX10_falseIn_27 rfl ?_
        refine AW_iald dX10_falseIn_29 h (fun v3 _ h => ?_)
        refine AW_iconst (v := -1) dX10_falseIn_30 (by decide) ?_
        refine AW_icmp_eq (tgt := 61) dX10_falseIn_31 (by decide) h (fun _ h => ?_) (fun _ h => ?_)
        · exact (t_X10_falseIn_61 N (f_X10_falseIn_8 N n) ih _ _ _ _ _ _ _ _ h)
        · refine AW_aload_n dX10_falseIn_34 rfl ?_
          refine AW_getR (ci := 9) (k0 := 11) (C := RX10) (T := TX10) (N := 13) dX10_falseIn_35 rfl (gT_u tU_X10) (by decide) (List.mem_cons_of_mem _ tF_X10_21) h (fun v4 _ h => ?_)
          refine AW_iload dX10_falseIn_38 rfl ?_
          refine AW_iald dX10_falseIn_40 h (fun v5 _ h => ?_)
          refine AW_aload_n dX10_falseIn_41 rfl ?_
          refine AW_iload_n dX10_falseIn_42 rfl ?_
          refine AW_iload dX10_falseIn_43 rfl ?_
          refine AW_callVi (y := yX10_shownIn) (cc := cX10_shownIn) (n := 9) (d := 1) (mc := 0) (ms := 0) (np := 2) (ret := (some .int)) (As := [.int x1, .int x5]) (st := [.int v5]) (ci := 9) dX10_falseIn_45 gT_s rfl tM_X10_93 tI_X10_shownIn selp_X10_shownIn tIni_X10 tY_X10_shownIn (by decide +kernel) ⟨by decide, by decide⟩ ⟨by decide, by decide⟩ (Nat.le_of_ble_eq_true rfl) rfl h (fun q hq => c_X10_shownIn N _ _ _ _ q hq) (fun q6 _ h => ?_)
          refine AW_icmp_eq (tgt := 61) dX10_falseIn_48 (by decide) h (fun _ h => ?_) (fun _ h => ?_)
          · exact (t_X10_falseIn_61 N (f_X10_falseIn_8 N n) ih _ _ _ _ _ _ _ _ h)
          · refine AW_iload_n dX10_falseIn_51 rfl ?_
            refine AW_iconst (v := 1) dX10_falseIn_52 (by decide) ?_
            refine AW_iload dX10_falseIn_53 rfl ?_
            refine AW_ishl dX10_falseIn_55 ?_
            refine AW_ior dX10_falseIn_56 ?_
            refine AW_istore_n (ls' := [some (va_rf x0), some (.int x1), some (.int x2), some (.int (x3 ||| ((1 : Int32) <<< (x5 &&& 31)))), some (.int x4), some (.int x5)]) dX10_falseIn_57 (c1_i rfl) (by decide) rfl ?_
            refine AW_iinc (v := 1) (ls' := [some (va_rf x0), some (.int x1), some (.int x2), some (.int (x3 ||| ((1 : Int32) <<< (x5 &&& 31)))), some (.int (x4 + (1 : Int32))), some (.int x5)]) dX10_falseIn_58 rfl (c1_i rfl) (by decide) (by decide) rfl ?_
            exact (t_X10_falseIn_61 N (f_X10_falseIn_8 N n) ih _ _ _ _ _ _ _ _ h)
def f_X10_falseIn_0 (N : Nat) (A : hP) (x0 : Option Nat) (x1 : Int32) (x2 : Int32) : Option (Int32 × hP) := f_X10_falseIn_8 N N A x0 x1 x2 (0 : Int32) (0 : Int32) (0 : Int32)
set_option maxRecDepth 20000 in
set_option maxHeartbeats 4000000 in
theorem t_X10_falseIn_0 {l : Launch} {G : gS} (N : Nat) (A : hP) (x0 : Option Nat) (x1 : Int32) (x2 : Int32) (res : Int32 × hP) (h : f_X10_falseIn_0 N A x0 x1 x2 = some res) : AW l mX10_falseIn (g_rm 2 0 0) G (g_Qf G (gi res) 0 0) A 0 0 0 [some (va_rf x0), some (.int x1), some (.int x2), none, none, none] [] := by
  unfold f_X10_falseIn_0 at h
  refine AW_iconst (v := 0) dX10_falseIn_0 (by decide) ?_
  refine AW_istore_n (ls' := [some (va_rf x0), some (.int x1), some (.int x2), some (.int (0 : Int32)), none, none]) dX10_falseIn_1 (c1_i rfl) (by decide) rfl ?_
  refine AW_iconst (v := 0) dX10_falseIn_2 (by decide) ?_
  refine AW_istore (ls' := [some (va_rf x0), some (.int x1), some (.int x2), some (.int (0 : Int32)), some (.int (0 : Int32)), none]) dX10_falseIn_3 (c1_i rfl) (by decide) rfl ?_
  refine AW_iconst (v := 0) dX10_falseIn_5 (by decide) ?_
  refine AW_istore (ls' := [some (va_rf x0), some (.int x1), some (.int x2), some (.int (0 : Int32)), some (.int (0 : Int32)), some (.int (0 : Int32))]) dX10_falseIn_6 (c1_i rfl) (by decide) rfl ?_
  exact (t_X10_falseIn_8 N N _ _ _ _ _ _ _ _ h)
def f_X10_falseIn (N : Nat) (A : hP) (x0 : Option Nat) (x1 : Int32) (x2 : Int32) : Option (Int32 × hP) := f_X10_falseIn_0 N A x0 x1 x2
set_option maxRecDepth 20000 in
theorem c_X10_falseIn {l : Launch} (N : Nat) (A : hP) (x0 : Option Nat) (x1 : Int32) (x2 : Int32) (res : Int32 × hP) (h : f_X10_falseIn N A x0 x1 x2 = some res) : Ct l mX10_falseIn 2 0 0 A [va_rf x0, .int x1, .int x2] (gi res) := Ct.of (lv := [(0, va_rf x0), (1, .int x1), (2, .int x2)]) (ls := [some (va_rf x0), some (.int x1), some (.int x2), none, none, none]) (by decide) (by simp [lv_args, g_cat_rf, cat_i, cat_l]) rfl (by simp [g_cat_rf, cat_i, cat_l]) (fun G => (t_X10_falseIn_0 N A x0 x1 x2 res h))
abbrev mX10_fewestFalse : gM := gMk yX10_fewestFalse cX10_fewestFalse 6 (some .int)
def f_X10_fewestFalse_63 (N : Nat) (r16 : hP → Option Nat → Int32 → Int32 → Int32 → Option (Int32 × hP)) (A : hP) (x0 : Option Nat) (x1 : Int32) (x2 : Int32) (x3 : Int32) : Option (Int32 × hP) := r16 A x0 x1 x2 (x3 + (1 : Int32))
set_option maxRecDepth 20000 in
set_option maxHeartbeats 4000000 in
theorem t_X10_fewestFalse_63 {l : Launch} {G : gS} (N : Nat) (r16 : hP → Option Nat → Int32 → Int32 → Int32 → Option (Int32 × hP)) (hr16 : ∀ (A : hP) (x0 : Option Nat) (x1 : Int32) (x2 : Int32) (x3 : Int32) (res : Int32 × hP), r16 A x0 x1 x2 x3 = some res → AW l mX10_fewestFalse (g_rm 3 0 0) G (g_Qf G (gi res) 0 0) A 0 0 16 [some (va_rf x0), some (.int x1), some (.int x2), some (.int x3), none, none] []) (A : hP) (x0 : Option Nat) (x1 : Int32) (x2 : Int32) (x3 : Int32) (res : Int32 × hP) (h : f_X10_fewestFalse_63 N r16 A x0 x1 x2 x3 = some res) : AW l mX10_fewestFalse (g_rm 3 0 0) G (g_Qf G (gi res) 0 0) A 0 0 63 [some (va_rf x0), some (.int x1), some (.int x2), some (.int x3), none, none] [] := by
  unfold f_X10_fewestFalse_63 at h
  refine AW_iinc (v := 1) (ls' := [some (va_rf x0), some (.int x1), some (.int x2), some (.int (x3 + (1 : Int32))), none, none]) dX10_fewestFalse_63 rfl (c1_i rfl) (by decide) (by decide) rfl ?_
  refine AW_goto (tgt := 16) dX10_fewestFalse_66 (by decide) ?_
  exact (hr16 _ _ _ _ _ _ h)
def f_X10_fewestFalse_57 (N : Nat) (r16 : hP → Option Nat → Int32 → Int32 → Int32 → Option (Int32 × hP)) (A : hP) (x0 : Option Nat) (x3 : Int32) (x4 : Int32) (x5 : Int32) : Option (Int32 × hP) := f_X10_fewestFalse_63 N r16 A x0 x4 x5 x3
set_option maxRecDepth 20000 in
set_option maxHeartbeats 4000000 in
theorem t_X10_fewestFalse_57 {l : Launch} {G : gS} (N : Nat) (r16 : hP → Option Nat → Int32 → Int32 → Int32 → Option (Int32 × hP)) (hr16 : ∀ (A : hP) (x0 : Option Nat) (x1 : Int32) (x2 : Int32) (x3 : Int32) (res : Int32 × hP), r16 A x0 x1 x2 x3 = some res → AW l mX10_fewestFalse (g_rm 3 0 0) G (g_Qf G (gi res) 0 0) A 0 0 16 [some (va_rf x0), some (.int x1), some (.int x2), some (.int x3), none, none] []) (A : hP) (x0 : Option Nat) (x3 : Int32) (x4 : Int32) (x5 : Int32) (res : Int32 × hP) (h : f_X10_fewestFalse_57 N r16 A x0 x3 x4 x5 = some res) : AW l mX10_fewestFalse (g_rm 3 0 0) G (g_Qf G (gi res) 0 0) A 0 0 57 [some (va_rf x0), none, none, some (.int x3), some (.int x4), some (.int x5)] [] := by
  unfold f_X10_fewestFalse_57 at h
  refine AW_iload dX10_fewestFalse_57 rfl ?_
  refine AW_istore_n (ls' := [some (va_rf x0), some (.int x4), none, some (.int x3), some (.int x4), some (.int x5)]) dX10_fewestFalse_59 (c1_r rfl) (by decide) rfl ?_
  refine AW_iload dX10_fewestFalse_60 rfl ?_
  refine AW_istore_n (ls' := [some (va_rf x0), some (.int x4), some (.int x5), some (.int x3), some (.int x4), some (.int x5)]) dX10_fewestFalse_62 (c1_i rfl) (by decide) rfl ?_
  exact AW_fewer (fw_k (fw_k (fw_k (fw_k (fw_d (fw_d fw_n)))))) (t_X10_fewestFalse_63 N r16 hr16 _ _ _ _ _ _ h)
def f_X10_fewestFalse_16 (N : Nat) : Nat → hP → Option Nat → Int32 → Int32 → Int32 → Option (Int32 × hP)
  | 0, _, _, _, _, _ => none
  | n + 1, A, x0, x1, x2, x3 => (oI A x0 9 7).bind fun v1 => if v1 ≤ x3 then (some (x1, A)) else ((oCk A x0 9).bind fun _ => (f_X10_falseIn N A x0 x3 x2).bind fun q2 => (f_J6_bitCount_0f7a4 N q2.2 q2.1).bind fun q3 => if q3.1 < x2 then (f_X10_fewestFalse_57 N (f_X10_fewestFalse_16 N n) q3.2 x0 x3 q2.1 q3.1) else (if q3.1 = x2 then (if x1 ≤ q2.1 then (f_X10_fewestFalse_63 N (f_X10_fewestFalse_16 N n) q3.2 x0 x1 x2 x3) else (f_X10_fewestFalse_57 N (f_X10_fewestFalse_16 N n) q3.2 x0 x3 q2.1 q3.1)) else (f_X10_fewestFalse_63 N (f_X10_fewestFalse_16 N n) q3.2 x0 x1 x2 x3)))
set_option maxRecDepth 20000 in
set_option maxHeartbeats 4000000 in
theorem t_X10_fewestFalse_16 {l : Launch} {G : gS} (N : Nat) : ∀ (n : Nat) (A : hP) (x0 : Option Nat) (x1 : Int32) (x2 : Int32) (x3 : Int32) (res : Int32 × hP), f_X10_fewestFalse_16 N n A x0 x1 x2 x3 = some res → AW l mX10_fewestFalse (g_rm 3 0 0) G (g_Qf G (gi res) 0 0) A 0 0 16 [some (va_rf x0), some (.int x1), some (.int x2), some (.int x3), none, none] [] := by
  intro n
  induction n with
  | zero => intro A x0 x1 x2 x3 res h; cases h
  | succ n ih =>
    intro A x0 x1 x2 x3 res h
    rw [f_X10_fewestFalse_16] at h
    refine AW_iload_n dX10_fewestFalse_16 rfl ?_
    refine AW_aload_n dX10_fewestFalse_17 rfl ?_
    refine AW_getI (ci := 9) (k0 := 7) (C := RX10) (T := TX10) (N := 13) dX10_fewestFalse_18 rfl (gT_u tU_X10) (by decide) (List.mem_cons_of_mem _ tF_X10_55) h (fun v1 _ h => ?_)
    refine AW_icmp_ge (tgt := 69) dX10_fewestFalse_21 (by decide) h (fun _ h => ?_) (fun _ h => ?_)
    · refine AW_iload_n dX10_fewestFalse_69 rfl ?_
      exact AW_iret dX10_fewestFalse_70 rfl ⟨Nat.zero_le _, Nat.zero_le _⟩ h
    · refine AW_aload_n dX10_fewestFalse_24 rfl ?_
      refine AW_iload_n dX10_fewestFalse_25 rfl ?_
      refine AW_iload_n dX10_fewestFalse_26 rfl ?_
      refine AW_callVi (y := yX10_falseIn) (cc := cX10_falseIn) (n := 6) (d := 2) (mc := 0) (ms := 0) (np := 2) (ret := (some .int)) (As := [.int x3, .int x2]) (st := []) (ci := 9) dX10_fewestFalse_27 gT_s rfl tM_X10_104 tI_X10_falseIn selp_X10_falseIn tIni_X10 tY_X10_falseIn (by decide +kernel) ⟨by decide, by decide⟩ ⟨by decide, by decide⟩ (Nat.le_of_ble_eq_true rfl) rfl h (fun q hq => c_X10_falseIn N _ _ _ _ q hq) (fun q2 _ h => ?_)
      refine AW_istore (ls' := [some (va_rf x0), some (.int x1), some (.int x2), some (.int x3), some (.int q2.1), none]) dX10_fewestFalse_30 (c1_i rfl) (by decide) rfl ?_
      refine AW_iload dX10_fewestFalse_32 rfl ?_
      refine AW_callSi (y := yJ6_bitCount_0f7a4) (cc := cJ6_bitCount_0f7a4) (n := 1) (d := 0) (mc := 0) (ms := 0) (np := 1) (ret := (some .int)) (As := [.int q2.1]) (st := []) dX10_fewestFalse_34 gT_s tM_X10_107 tS_J6_bitCount_0f7a4 tIni_J6 tY_J6_bitCount_0f7a4 (by decide +kernel) ⟨by decide, by decide⟩ ⟨by decide, by decide⟩ (Nat.le_of_ble_eq_true rfl) rfl h (fun q hq => c_J6_bitCount_0f7a4 N _ _ q hq) (fun q3 _ h => ?_)
      refine AW_istore (ls' := [some (va_rf x0), some (.int x1), some (.int x2), some (.int x3), some (.int q2.1), some (.int q3.1)]) dX10_fewestFalse_37 (c1_i rfl) (by decide) rfl ?_
      refine AW_iload dX10_fewestFalse_39 rfl ?_
      refine AW_iload_n dX10_fewestFalse_41 rfl ?_
      refine AW_icmp_lt (tgt := 57) dX10_fewestFalse_42 (by decide) h (fun _ h => ?_) (fun _ h => ?_)
      · exact AW_fewer (fw_k (fw_d (fw_d (fw_k (fw_k (fw_k fw_n)))))) (t_X10_fewestFalse_57 N (f_X10_fewestFalse_16 N n) ih _ _ _ _ _ _ h)
      · refine AW_iload dX10_fewestFalse_45 rfl ?_
        refine AW_iload_n dX10_fewestFalse_47 rfl ?_
        refine AW_icmp_ne (tgt := 63) dX10_fewestFalse_48 (by decide) h (fun _ h => ?_) (fun _ h => ?_)
        · exact AW_fewer (fw_k (fw_k (fw_k (fw_k (fw_d (fw_d fw_n)))))) (t_X10_fewestFalse_63 N (f_X10_fewestFalse_16 N n) ih _ _ _ _ _ _ h)
        · refine AW_iload dX10_fewestFalse_51 rfl ?_
          refine AW_iload_n dX10_fewestFalse_53 rfl ?_
          refine AW_icmp_ge (tgt := 63) dX10_fewestFalse_54 (by decide) h (fun _ h => ?_) (fun _ h => ?_)
          · exact AW_fewer (fw_k (fw_k (fw_k (fw_k (fw_d (fw_d fw_n)))))) (t_X10_fewestFalse_63 N (f_X10_fewestFalse_16 N n) ih _ _ _ _ _ _ h)
          · exact AW_fewer (fw_k (fw_d (fw_d (fw_k (fw_k (fw_k fw_n)))))) (t_X10_fewestFalse_57 N (f_X10_fewestFalse_16 N n) ih _ _ _ _ _ _ h)
def f_X10_fewestFalse_0 (N : Nat) (A : hP) (x0 : Option Nat) : Option (Int32 × hP) := (oI A x0 9 6).bind fun v4 => (oI A x0 9 6).bind fun v5 => f_X10_fewestFalse_16 N N A x0 (((1 : Int32) <<< (v4 &&& 31)) - (1 : Int32)) v5 (0 : Int32)
set_option maxRecDepth 20000 in
set_option maxHeartbeats 4000000 in
theorem t_X10_fewestFalse_0 {l : Launch} {G : gS} (N : Nat) (A : hP) (x0 : Option Nat) (res : Int32 × hP) (h : f_X10_fewestFalse_0 N A x0 = some res) : AW l mX10_fewestFalse (g_rm 3 0 0) G (g_Qf G (gi res) 0 0) A 0 0 0 [some (va_rf x0), none, none, none, none, none] [] := by
  unfold f_X10_fewestFalse_0 at h
  refine AW_iconst (v := 1) dX10_fewestFalse_0 (by decide) ?_
  refine AW_aload_n dX10_fewestFalse_1 rfl ?_
  refine AW_getI (ci := 9) (k0 := 6) (C := RX10) (T := TX10) (N := 13) dX10_fewestFalse_2 rfl (gT_u tU_X10) (by decide) (List.mem_cons_of_mem _ tF_X10_31) h (fun v4 _ h => ?_)
  refine AW_ishl dX10_fewestFalse_5 ?_
  refine AW_iconst (v := 1) dX10_fewestFalse_6 (by decide) ?_
  refine AW_isub dX10_fewestFalse_7 ?_
  refine AW_istore_n (ls' := [some (va_rf x0), some (.int (((1 : Int32) <<< (v4 &&& 31)) - (1 : Int32))), none, none, none, none]) dX10_fewestFalse_8 (c1_r rfl) (by decide) rfl ?_
  refine AW_aload_n dX10_fewestFalse_9 rfl ?_
  refine AW_getI (ci := 9) (k0 := 6) (C := RX10) (T := TX10) (N := 13) dX10_fewestFalse_10 rfl (gT_u tU_X10) (by decide) (List.mem_cons_of_mem _ tF_X10_31) h (fun v5 _ h => ?_)
  refine AW_istore_n (ls' := [some (va_rf x0), some (.int (((1 : Int32) <<< (v4 &&& 31)) - (1 : Int32))), some (.int v5), none, none, none]) dX10_fewestFalse_13 (c1_i rfl) (by decide) rfl ?_
  refine AW_iconst (v := 0) dX10_fewestFalse_14 (by decide) ?_
  refine AW_istore_n (ls' := [some (va_rf x0), some (.int (((1 : Int32) <<< (v4 &&& 31)) - (1 : Int32))), some (.int v5), some (.int (0 : Int32)), none, none]) dX10_fewestFalse_15 (c1_i rfl) (by decide) rfl ?_
  exact (t_X10_fewestFalse_16 N N _ _ _ _ _ _ h)
def f_X10_fewestFalse (N : Nat) (A : hP) (x0 : Option Nat) : Option (Int32 × hP) := f_X10_fewestFalse_0 N A x0
set_option maxRecDepth 20000 in
theorem c_X10_fewestFalse {l : Launch} (N : Nat) (A : hP) (x0 : Option Nat) (res : Int32 × hP) (h : f_X10_fewestFalse N A x0 = some res) : Ct l mX10_fewestFalse 3 0 0 A [va_rf x0] (gi res) := Ct.of (lv := [(0, va_rf x0)]) (ls := [some (va_rf x0), none, none, none, none, none]) (by decide) (by simp [lv_args, g_cat_rf, cat_i, cat_l]) rfl (by simp [g_cat_rf, cat_i, cat_l]) (fun G => (t_X10_fewestFalse_0 N A x0 res h))
abbrev mX10_gatherTrue : gM := gMk yX10_gatherTrue cX10_gatherTrue 4 (some .int)
def f_X10_gatherTrue_57 (N : Nat) (r31 : hP → Option Nat → Int32 → Int32 → Option (Int32 × hP)) (A : hP) (x0 : Option Nat) (x2 : Int32) (x3 : Int32) : Option (Int32 × hP) := r31 A x0 x2 (x3 + (1 : Int32))
set_option maxRecDepth 20000 in
set_option maxHeartbeats 4000000 in
theorem t_X10_gatherTrue_57 {l : Launch} {G : gS} (N : Nat) (r31 : hP → Option Nat → Int32 → Int32 → Option (Int32 × hP)) (hr31 : ∀ (A : hP) (x0 : Option Nat) (x2 : Int32) (x3 : Int32) (res : Int32 × hP), r31 A x0 x2 x3 = some res → AW l mX10_gatherTrue (g_rm 4 0 0) G (g_Qf G (gi res) 0 0) A 0 0 31 [some (va_rf x0), none, some (.int x2), some (.int x3)] []) (A : hP) (x0 : Option Nat) (x2 : Int32) (x3 : Int32) (res : Int32 × hP) (h : f_X10_gatherTrue_57 N r31 A x0 x2 x3 = some res) : AW l mX10_gatherTrue (g_rm 4 0 0) G (g_Qf G (gi res) 0 0) A 0 0 57 [some (va_rf x0), none, some (.int x2), some (.int x3)] [] := by
  unfold f_X10_gatherTrue_57 at h
  refine AW_iinc (v := 1) (ls' := [some (va_rf x0), none, some (.int x2), some (.int (x3 + (1 : Int32)))]) dX10_gatherTrue_57 rfl (c1_i rfl) (by decide) (by decide) rfl ?_
  refine AW_goto (tgt := 31) dX10_gatherTrue_60 (by decide) ?_
  exact (hr31 _ _ _ _ _ h)
def f_X10_gatherTrue_31 (N : Nat) : Nat → hP → Option Nat → Int32 → Int32 → Option (Int32 × hP)
  | 0, _, _, _, _ => none
  | n + 1, A, x0, x2, x3 => (oI A x0 9 7).bind fun v1 => if v1 ≤ x3 then (some (x2, A)) else ((oCk A x0 9).bind fun _ => (f_X10_isFitting N A x0 x3).bind fun q2 => if q2.1 = (0) then (f_X10_gatherTrue_57 N (f_X10_gatherTrue_31 N n) q2.2 x0 x2 x3) else ((oR q2.2 x0 9 12).bind fun v3 => (oS q2.2 v3 0 x2 x3).bind fun A4 => f_X10_gatherTrue_57 N (f_X10_gatherTrue_31 N n) A4 x0 (x2 + (1 : Int32)) x3))
set_option maxRecDepth 20000 in
set_option maxHeartbeats 4000000 in
theorem t_X10_gatherTrue_31 {l : Launch} {G : gS} (N : Nat) : ∀ (n : Nat) (A : hP) (x0 : Option Nat) (x2 : Int32) (x3 : Int32) (res : Int32 × hP), f_X10_gatherTrue_31 N n A x0 x2 x3 = some res → AW l mX10_gatherTrue (g_rm 4 0 0) G (g_Qf G (gi res) 0 0) A 0 0 31 [some (va_rf x0), none, some (.int x2), some (.int x3)] [] := by
  intro n
  induction n with
  | zero => intro A x0 x2 x3 res h; cases h
  | succ n ih =>
    intro A x0 x2 x3 res h
    rw [f_X10_gatherTrue_31] at h
    refine AW_iload_n dX10_gatherTrue_31 rfl ?_
    refine AW_aload_n dX10_gatherTrue_32 rfl ?_
    refine AW_getI (ci := 9) (k0 := 7) (C := RX10) (T := TX10) (N := 13) dX10_gatherTrue_33 rfl (gT_u tU_X10) (by decide) (List.mem_cons_of_mem _ tF_X10_55) h (fun v1 _ h => ?_)
    refine AW_icmp_ge (tgt := 63) dX10_gatherTrue_36 (by decide) h (fun _ h => ?_) (fun _ h => ?_)
    · refine AW_iload_n dX10_gatherTrue_63 rfl ?_
      exact AW_iret dX10_gatherTrue_64 rfl ⟨Nat.zero_le _, Nat.zero_le _⟩ h
    · refine AW_aload_n dX10_gatherTrue_39 rfl ?_
      refine AW_iload_n dX10_gatherTrue_40 rfl ?_
      refine AW_callVi (y := yX10_isFitting) (cc := cX10_isFitting) (n := 3) (d := 2) (mc := 0) (ms := 0) (np := 1) (ret := (some .boolean)) (As := [.int x3]) (st := []) (ci := 9) dX10_gatherTrue_41 gT_s rfl tM_X10_96 tI_X10_isFitting selp_X10_isFitting tIni_X10 tY_X10_isFitting (by decide +kernel) ⟨by decide, by decide⟩ ⟨by decide, by decide⟩ (Nat.le_of_ble_eq_true rfl) rfl h (fun q hq => c_X10_isFitting N _ _ _ q hq) (fun q2 _ h => ?_)
      refine AW_if_eq (tgt := 57) dX10_gatherTrue_44 (by decide) h (fun _ h => ?_) (fun _ h => ?_)
      · exact (t_X10_gatherTrue_57 N (f_X10_gatherTrue_31 N n) ih _ _ _ _ _ h)
      · refine AW_aload_n dX10_gatherTrue_47 rfl ?_
        refine AW_getR (ci := 9) (k0 := 12) (C := RX10) (T := TX10) (N := 13) dX10_gatherTrue_48 rfl (gT_u tU_X10) (by decide) (List.mem_cons_of_mem _ tF_X10_24) h (fun v3 _ h => ?_)
        refine AW_iload_n dX10_gatherTrue_51 rfl ?_
        refine AW_iload_n dX10_gatherTrue_52 rfl ?_
        refine AW_iast dX10_gatherTrue_53 h (fun A4 _ h => ?_)
        refine AW_iinc (v := 1) (ls' := [some (va_rf x0), none, some (.int (x2 + (1 : Int32))), some (.int x3)]) dX10_gatherTrue_54 rfl (c1_n rfl) (by decide) (by decide) rfl ?_
        exact (t_X10_gatherTrue_57 N (f_X10_gatherTrue_31 N n) ih _ _ _ _ _ h)
def f_X10_gatherTrue_2 (N : Nat) : Nat → hP → Option Nat → Option Nat → Int32 → Option (Int32 × hP)
  | 0, _, _, _, _ => none
  | n + 1, A, x0, x1, x2 => (oI A x0 9 6).bind fun v5 => if v5 ≤ x2 then (f_X10_gatherTrue_31 N N A x0 (0 : Int32) (0 : Int32)) else ((oR A x0 9 11).bind fun v6 => (oCk A x1 2).bind fun _ => (f_X2_shownOn N A x1 x2).bind fun q7 => (oS q7.2 v6 0 x2 q7.1).bind fun A8 => f_X10_gatherTrue_2 N n A8 x0 x1 (x2 + (1 : Int32)))
set_option maxRecDepth 20000 in
set_option maxHeartbeats 4000000 in
theorem t_X10_gatherTrue_2 {l : Launch} {G : gS} (N : Nat) : ∀ (n : Nat) (A : hP) (x0 : Option Nat) (x1 : Option Nat) (x2 : Int32) (res : Int32 × hP), f_X10_gatherTrue_2 N n A x0 x1 x2 = some res → AW l mX10_gatherTrue (g_rm 4 0 0) G (g_Qf G (gi res) 0 0) A 0 0 2 [some (va_rf x0), some (va_rf x1), some (.int x2), none] [] := by
  intro n
  induction n with
  | zero => intro A x0 x1 x2 res h; cases h
  | succ n ih =>
    intro A x0 x1 x2 res h
    rw [f_X10_gatherTrue_2] at h
    refine AW_iload_n dX10_gatherTrue_2 rfl ?_
    refine AW_aload_n dX10_gatherTrue_3 rfl ?_
    refine AW_getI (ci := 9) (k0 := 6) (C := RX10) (T := TX10) (N := 13) dX10_gatherTrue_4 rfl (gT_u tU_X10) (by decide) (List.mem_cons_of_mem _ tF_X10_31) h (fun v5 _ h => ?_)
    refine AW_icmp_ge (tgt := 27) dX10_gatherTrue_7 (by decide) h (fun _ h => ?_) (fun _ h => ?_)
    · refine AW_iconst (v := 0) dX10_gatherTrue_27 (by decide) ?_
      refine AW_istore_n (ls' := [some (va_rf x0), some (va_rf x1), some (.int (0 : Int32)), none]) dX10_gatherTrue_28 (c1_r rfl) (by decide) rfl ?_
      refine AW_iconst (v := 0) dX10_gatherTrue_29 (by decide) ?_
      refine AW_istore_n (ls' := [some (va_rf x0), some (va_rf x1), some (.int (0 : Int32)), some (.int (0 : Int32))]) dX10_gatherTrue_30 (c1_i rfl) (by decide) rfl ?_
      exact AW_fewer (fw_k (fw_d (fw_k (fw_k fw_n)))) (t_X10_gatherTrue_31 N N _ _ _ _ _ h)
    · refine AW_aload_n dX10_gatherTrue_10 rfl ?_
      refine AW_getR (ci := 9) (k0 := 11) (C := RX10) (T := TX10) (N := 13) dX10_gatherTrue_11 rfl (gT_u tU_X10) (by decide) (List.mem_cons_of_mem _ tF_X10_21) h (fun v6 _ h => ?_)
      refine AW_iload_n dX10_gatherTrue_14 rfl ?_
      refine AW_aload_n dX10_gatherTrue_15 rfl ?_
      refine AW_iload_n dX10_gatherTrue_16 rfl ?_
      refine AW_callVi (y := yX2_shownOn) (cc := cX2_shownOn) (n := 2) (d := 3) (mc := 0) (ms := 0) (np := 1) (ret := (some .int)) (As := [.int x2]) (st := [.int x2, va_rf v6]) (ci := 2) dX10_gatherTrue_17 gT_s rfl tM_X10_144 tI_X2_shownOn tSel_X2_X2_X2_shownOn tIni_X2 tY_X2_shownOn (by decide +kernel) ⟨by decide, by decide⟩ ⟨by decide, by decide⟩ (Nat.le_of_ble_eq_true rfl) rfl h (fun q hq => c_X2_shownOn N _ _ _ q hq) (fun q7 _ h => ?_)
      refine AW_iast dX10_gatherTrue_20 h (fun A8 _ h => ?_)
      refine AW_iinc (v := 1) (ls' := [some (va_rf x0), some (va_rf x1), some (.int (x2 + (1 : Int32))), none]) dX10_gatherTrue_21 rfl (c1_r rfl) (by decide) (by decide) rfl ?_
      refine AW_goto (tgt := 2) dX10_gatherTrue_24 (by decide) ?_
      exact (ih _ _ _ _ _ h)
def f_X10_gatherTrue_0 (N : Nat) (A : hP) (x0 : Option Nat) (x1 : Option Nat) : Option (Int32 × hP) := f_X10_gatherTrue_2 N N A x0 x1 (0 : Int32)
set_option maxRecDepth 20000 in
set_option maxHeartbeats 4000000 in
theorem t_X10_gatherTrue_0 {l : Launch} {G : gS} (N : Nat) (A : hP) (x0 : Option Nat) (x1 : Option Nat) (res : Int32 × hP) (h : f_X10_gatherTrue_0 N A x0 x1 = some res) : AW l mX10_gatherTrue (g_rm 4 0 0) G (g_Qf G (gi res) 0 0) A 0 0 0 [some (va_rf x0), some (va_rf x1), none, none] [] := by
  unfold f_X10_gatherTrue_0 at h
  refine AW_iconst (v := 0) dX10_gatherTrue_0 (by decide) ?_
  refine AW_istore_n (ls' := [some (va_rf x0), some (va_rf x1), some (.int (0 : Int32)), none]) dX10_gatherTrue_1 (c1_r rfl) (by decide) rfl ?_
  exact (t_X10_gatherTrue_2 N N _ _ _ _ _ h)
def f_X10_gatherTrue (N : Nat) (A : hP) (x0 : Option Nat) (x1 : Option Nat) : Option (Int32 × hP) := f_X10_gatherTrue_0 N A x0 x1
set_option maxRecDepth 20000 in
theorem c_X10_gatherTrue {l : Launch} (N : Nat) (A : hP) (x0 : Option Nat) (x1 : Option Nat) (res : Int32 × hP) (h : f_X10_gatherTrue N A x0 x1 = some res) : Ct l mX10_gatherTrue 4 0 0 A [va_rf x0, va_rf x1] (gi res) := Ct.of (lv := [(0, va_rf x0), (1, va_rf x1)]) (ls := [some (va_rf x0), some (va_rf x1), none, none]) (by decide) (by simp [lv_args, g_cat_rf, cat_i, cat_l]) rfl (by simp [g_cat_rf, cat_i, cat_l]) (fun G => (t_X10_gatherTrue_0 N A x0 x1 res h))
abbrev mX10_worldOf : gM := gMk yX10_worldOf cX10_worldOf 3 (some .int)
def f_X10_worldOf_4 (N : Nat) : Nat → hP → Option Nat → Int32 → Int32 → Option (Int32 × hP)
  | 0, _, _, _, _ => none
  | n + 1, A, x0, x1, x2 => (oI A x0 2 4).bind fun v1 => if v1 ≤ x2 then (some (x1, A)) else ((oR A x0 2 8).bind fun v2 => (oA A v2 0 x2).bind fun v3 => f_X10_worldOf_4 N n A x0 (x1 ||| (v3 <<< (((3 : Int32) * x2) &&& 31))) (x2 + (1 : Int32)))
set_option maxRecDepth 20000 in
set_option maxHeartbeats 4000000 in
theorem t_X10_worldOf_4 {l : Launch} {G : gS} (N : Nat) : ∀ (n : Nat) (A : hP) (x0 : Option Nat) (x1 : Int32) (x2 : Int32) (res : Int32 × hP), f_X10_worldOf_4 N n A x0 x1 x2 = some res → AW l mX10_worldOf (g_rm 0 0 0) G (g_Qf G (gi res) 0 0) A 0 0 4 [some (va_rf x0), some (.int x1), some (.int x2)] [] := by
  intro n
  induction n with
  | zero => intro A x0 x1 x2 res h; cases h
  | succ n ih =>
    intro A x0 x1 x2 res h
    rw [f_X10_worldOf_4] at h
    refine AW_iload_n dX10_worldOf_4 rfl ?_
    refine AW_aload_n dX10_worldOf_5 rfl ?_
    refine AW_getI (ci := 2) (k0 := 4) (C := RX2) (T := TX2) (N := 11) dX10_worldOf_6 rfl (gT_u tU_X2) (by decide) (List.mem_cons_of_mem _ tF_X10_52) h (fun v1 _ h => ?_)
    refine AW_icmp_ge (tgt := 31) dX10_worldOf_9 (by decide) h (fun _ h => ?_) (fun _ h => ?_)
    · refine AW_iload_n dX10_worldOf_31 rfl ?_
      exact AW_iret dX10_worldOf_32 rfl ⟨Nat.zero_le _, Nat.zero_le _⟩ h
    · refine AW_iload_n dX10_worldOf_12 rfl ?_
      refine AW_aload_n dX10_worldOf_13 rfl ?_
      refine AW_getR (ci := 2) (k0 := 8) (C := RX2) (T := TX2) (N := 11) dX10_worldOf_14 rfl (gT_u tU_X2) (by decide) (List.mem_cons_of_mem _ tF_X10_141) h (fun v2 _ h => ?_)
      refine AW_iload_n dX10_worldOf_17 rfl ?_
      refine AW_iald dX10_worldOf_18 h (fun v3 _ h => ?_)
      refine AW_iconst (v := 3) dX10_worldOf_19 (by decide) ?_
      refine AW_iload_n dX10_worldOf_20 rfl ?_
      refine AW_imul dX10_worldOf_21 ?_
      refine AW_ishl dX10_worldOf_22 ?_
      refine AW_ior dX10_worldOf_23 ?_
      refine AW_istore_n (ls' := [some (va_rf x0), some (.int (x1 ||| (v3 <<< (((3 : Int32) * x2) &&& 31)))), some (.int x2)]) dX10_worldOf_24 (c1_r rfl) (by decide) rfl ?_
      refine AW_iinc (v := 1) (ls' := [some (va_rf x0), some (.int (x1 ||| (v3 <<< (((3 : Int32) * x2) &&& 31)))), some (.int (x2 + (1 : Int32)))]) dX10_worldOf_25 rfl (c1_i rfl) (by decide) (by decide) rfl ?_
      refine AW_goto (tgt := 4) dX10_worldOf_28 (by decide) ?_
      exact (ih _ _ _ _ _ h)
def f_X10_worldOf_0 (N : Nat) (A : hP) (x0 : Option Nat) : Option (Int32 × hP) := f_X10_worldOf_4 N N A x0 (0 : Int32) (0 : Int32)
set_option maxRecDepth 20000 in
set_option maxHeartbeats 4000000 in
theorem t_X10_worldOf_0 {l : Launch} {G : gS} (N : Nat) (A : hP) (x0 : Option Nat) (res : Int32 × hP) (h : f_X10_worldOf_0 N A x0 = some res) : AW l mX10_worldOf (g_rm 0 0 0) G (g_Qf G (gi res) 0 0) A 0 0 0 [some (va_rf x0), none, none] [] := by
  unfold f_X10_worldOf_0 at h
  refine AW_iconst (v := 0) dX10_worldOf_0 (by decide) ?_
  refine AW_istore_n (ls' := [some (va_rf x0), some (.int (0 : Int32)), none]) dX10_worldOf_1 (c1_r rfl) (by decide) rfl ?_
  refine AW_iconst (v := 0) dX10_worldOf_2 (by decide) ?_
  refine AW_istore_n (ls' := [some (va_rf x0), some (.int (0 : Int32)), some (.int (0 : Int32))]) dX10_worldOf_3 (c1_i rfl) (by decide) rfl ?_
  exact (t_X10_worldOf_4 N N _ _ _ _ _ h)
def f_X10_worldOf (N : Nat) (A : hP) (x0 : Option Nat) : Option (Int32 × hP) := f_X10_worldOf_0 N A x0
set_option maxRecDepth 20000 in
theorem c_X10_worldOf {l : Launch} (N : Nat) (A : hP) (x0 : Option Nat) (res : Int32 × hP) (h : f_X10_worldOf N A x0 = some res) : Ct l mX10_worldOf 0 0 0 A [va_rf x0] (gi res) := Ct.of (lv := [(0, va_rf x0)]) (ls := [some (va_rf x0), none, none]) (by decide) (by simp [lv_args, g_cat_rf, cat_i, cat_l]) rfl (by simp [g_cat_rf, cat_i, cat_l]) (fun G => (t_X10_worldOf_0 N A x0 res h))
