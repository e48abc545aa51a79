abbrev mX10_isAlone : gM := gMk yX10_isAlone cX10_isAlone 6 (some .boolean)
def f_X10_isAlone_47 (N : Nat) (r11 : hP → Option Nat → Int32 → Int32 → Int32 → Int32 → Int32 → Option (Int32 × hP)) (A : hP) (x0 : Option Nat) (x1 : Int32) (x2 : Int32) (x3 : Int32) (x4 : Int32) (x5 : Int32) : Option (Int32 × hP) := r11 A x0 x1 x2 x3 x4 (x5 + (1 : Int32))
set_option maxRecDepth 20000 in
set_option maxHeartbeats 4000000 in
theorem t_X10_isAlone_47 {l : Launch} {G : gS} (N : Nat) (r11 : hP → Option Nat → Int32 → Int32 → Int32 → Int32 → Int32 → Option (Int32 × hP)) (hr11 : ∀ (A : hP) (x0 : Option Nat) (x1 : Int32) (x2 : Int32) (x3 : Int32) (x4 : Int32) (x5 : Int32) (res : Int32 × hP), r11 A x0 x1 x2 x3 x4 x5 = some res → AW l mX10_isAlone (g_rm 2 0 0) G (g_Qf G (gi res) 0 0) A 0 0 11 [some (va_rf x0), some (.int x1), some (.int x2), some (.int x3), some (.int x4), some (.int x5)] []) (A : hP) (x0 : Option Nat) (x1 : Int32) (x2 : Int32) (x3 : Int32) (x4 : Int32) (x5 : Int32) (res : Int32 × hP) (h : f_X10_isAlone_47 N r11 A x0 x1 x2 x3 x4 x5 = some res) : AW l mX10_isAlone (g_rm 2 0 0) G (g_Qf G (gi res) 0 0) A 0 0 47 [some (va_rf x0), some (.int x1), some (.int x2), some (.int x3), some (.int x4), some (.int x5)] [] := by
  unfold f_X10_isAlone_47 at h
  refine AW_iinc (v := 1) (ls' := [some (va_rf x0), some (.int x1), some (.int x2), some (.int x3), some (.int x4), some (.int (x5 + (1 : Int32)))]) dX10_isAlone_47 rfl (c1_i rfl) (by decide) (by decide) rfl ?_
  refine AW_goto (tgt := 11) dX10_isAlone_50 (by decide) ?_
  exact (hr11 _ _ _ _ _ _ _ _ h)
def f_X10_isAlone_11 (N : Nat) : Nat → hP → Option Nat → Int32 → Int32 → Int32 → Int32 → Int32 → Option (Int32 × hP)
  | 0, _, _, _, _, _, _, _ => none
  | n + 1, A, x0, x1, x2, x3, x4, x5 => if x2 ≤ x5 then (if (1 : Int32) = 0 ∨ (1 : Int32) = 1 then some ((1 : Int32), A) else none) else ((oR A x0 9 12).bind fun v1 => (oA A v1 0 x5).bind fun v2 => if v2 = x1 then (f_X10_isAlone_47 N (f_X10_isAlone_11 N n) A x0 x1 x2 x3 x4 x5) else ((oR A x0 9 12).bind fun v3 => (oA A v3 0 x5).bind fun v4 => (oCk A x0 9).bind fun _ => (f_X10_shownIn N A x0 v4 x3).bind fun q5 => if q5.1 = x4 then (if (0 : Int32) = 0 ∨ (0 : Int32) = 1 then some ((0 : Int32), q5.2) else none) else (f_X10_isAlone_47 N (f_X10_isAlone_11 N n) q5.2 x0 x1 x2 x3 x4 x5)))
set_option maxRecDepth 20000 in
set_option maxHeartbeats 4000000 in
theorem t_X10_isAlone_11 {l : Launch} {G : gS} (N : Nat) : ∀ (n : Nat) (A : hP) (x0 : Option Nat) (x1 : Int32) (x2 : Int32) (x3 : Int32) (x4 : Int32) (x5 : Int32) (res : Int32 × hP), f_X10_isAlone_11 N n A x0 x1 x2 x3 x4 x5 = some res → AW l mX10_isAlone (g_rm 2 0 0) G (g_Qf G (gi res) 0 0) A 0 0 11 [some (va_rf x0), some (.int x1), some (.int x2), some (.int x3), some (.int x4), some (.int x5)] [] := by
  intro n
  induction n with
  | zero => intro A x0 x1 x2 x3 x4 x5 res h; cases h
  | succ n ih =>
    intro A x0 x1 x2 x3 x4 x5 res h
    rw [f_X10_isAlone_11] at h
    refine AW_iload dX10_isAlone_11 rfl ?_
    refine AW_iload_n dX10_isAlone_13 rfl ?_
    refine AW_icmp_ge (tgt := 53) dX10_isAlone_14 (by decide) h (fun _ h => ?_) (fun _ h => ?_)
    · refine AW_iconst (v := 1) dX10_isAlone_53 (by decide) ?_
      exact AW_zret dX10_isAlone_54 rfl ⟨Nat.zero_le _, Nat.zero_le _⟩ h
    · refine AW_aload_n dX10_isAlone_17 rfl ?_
      refine AW_getR (ci := 9) (k0 := 12) (C := RX10) (T := TX10) (N := 13) dX10_isAlone_18 rfl (gT_u tU_X10) (by decide) (List.mem_cons_of_mem _ tF_X10_24) h (fun v1 _ h => ?_)
      refine AW_iload dX10_isAlone_21 rfl ?_
      refine AW_iald dX10_isAlone_23 h (fun v2 _ h => ?_)
      refine AW_iload_n dX10_isAlone_24 rfl ?_
      refine AW_icmp_eq (tgt := 47) dX10_isAlone_25 (by decide) h (fun _ h => ?_) (fun _ h => ?_)
      · exact (t_X10_isAlone_47 N (f_X10_isAlone_11 N n) ih _ _ _ _ _ _ _ _ h)
      · refine AW_aload_n dX10_isAlone_28 rfl ?_
        refine AW_aload_n dX10_isAlone_29 rfl ?_
        refine AW_getR (ci := 9) (k0 := 12) (C := RX10) (T := TX10) (N := 13) dX10_isAlone_30 rfl (gT_u tU_X10) (by decide) (List.mem_cons_of_mem _ tF_X10_24) h (fun v3 _ h => ?_)
        refine AW_iload dX10_isAlone_33 rfl ?_
        refine AW_iald dX10_isAlone_35 h (fun v4 _ h => ?_)
        refine AW_iload_n dX10_isAlone_36 rfl ?_
        refine AW_callVi (y := yX10_shownIn) (cc := cX10_shownIn) (n := 9) (d := 1) (mc := 0) (ms := 0) (np := 2) (ret := (some .int)) (As := [.int v4, .int x3]) (st := []) (ci := 9) dX10_isAlone_37 gT_s rfl tM_X10_93 tI_X10_shownIn selp_X10_shownIn tIni_X10 tY_X10_shownIn (by decide +kernel) ⟨by decide, by decide⟩ ⟨by decide, by decide⟩ (Nat.le_of_ble_eq_true rfl) rfl h (fun q hq => c_X10_shownIn N _ _ _ _ q hq) (fun q5 _ h => ?_)
        refine AW_iload dX10_isAlone_40 rfl ?_
        refine AW_icmp_ne (tgt := 47) dX10_isAlone_42 (by decide) h (fun _ h => ?_) (fun _ h => ?_)
        · exact (t_X10_isAlone_47 N (f_X10_isAlone_11 N n) ih _ _ _ _ _ _ _ _ h)
        · refine AW_iconst (v := 0) dX10_isAlone_45 (by decide) ?_
          exact AW_zret dX10_isAlone_46 rfl ⟨Nat.zero_le _, Nat.zero_le _⟩ h
def f_X10_isAlone_0 (N : Nat) (A : hP) (x0 : Option Nat) (x1 : Int32) (x2 : Int32) (x3 : Int32) : Option (Int32 × hP) := (oCk A x0 9).bind fun _ => (f_X10_shownIn N A x0 x1 x3).bind fun q6 => f_X10_isAlone_11 N N q6.2 x0 x1 x2 x3 q6.1 (0 : Int32)
set_option maxRecDepth 20000 in
set_option maxHeartbeats 4000000 in
theorem t_X10_isAlone_0 {l : Launch} {G : gS} (N : Nat) (A : hP) (x0 : Option Nat) (x1 : Int32) (x2 : Int32) (x3 : Int32) (res : Int32 × hP) (h : f_X10_isAlone_0 N A x0 x1 x2 x3 = some res) : AW l mX10_isAlone (g_rm 2 0 0) G (g_Qf G (gi res) 0 0) A 0 0 0 [some (va_rf x0), some (.int x1), some (.int x2), some (.int x3), none, none] [] := by
  unfold f_X10_isAlone_0 at h
  refine AW_aload_n dX10_isAlone_0 rfl ?_
  refine AW_iload_n dX10_isAlone_1 rfl ?_
  refine AW_iload_n dX10_isAlone_2 rfl ?_
  refine AW_callVi (y := yX10_shownIn) (cc := cX10_shownIn) (n := 9) (d := 1) (mc := 0) (ms := 0) (np := 2) (ret := (some .int)) (As := [.int x1, .int x3]) (st := []) (ci := 9) dX10_isAlone_3 gT_s rfl tM_X10_93 tI_X10_shownIn selp_X10_shownIn tIni_X10 tY_X10_shownIn (by decide +kernel) ⟨by decide, by decide⟩ ⟨by decide, by decide⟩ (Nat.le_of_ble_eq_true rfl) rfl h (fun q hq => c_X10_shownIn N _ _ _ _ q hq) (fun q6 _ h => ?_)
  refine AW_istore (ls' := [some (va_rf x0), some (.int x1), some (.int x2), some (.int x3), some (.int q6.1), none]) dX10_isAlone_6 (c1_i rfl) (by decide) rfl ?_
  refine AW_iconst (v := 0) dX10_isAlone_8 (by decide) ?_
  refine AW_istore (ls' := [some (va_rf x0), some (.int x1), some (.int x2), some (.int x3), some (.int q6.1), some (.int (0 : Int32))]) dX10_isAlone_9 (c1_i rfl) (by decide) rfl ?_
  exact (t_X10_isAlone_11 N N _ _ _ _ _ _ _ _ h)
def f_X10_isAlone (N : Nat) (A : hP) (x0 : Option Nat) (x1 : Int32) (x2 : Int32) (x3 : Int32) : Option (Int32 × hP) := f_X10_isAlone_0 N A x0 x1 x2 x3
set_option maxRecDepth 20000 in
theorem c_X10_isAlone {l : Launch} (N : Nat) (A : hP) (x0 : Option Nat) (x1 : Int32) (x2 : Int32) (x3 : Int32) (res : Int32 × hP) (h : f_X10_isAlone N A x0 x1 x2 x3 = some res) : Ct l mX10_isAlone 2 0 0 A [va_rf x0, .int x1, .int x2, .int x3] (gi res) := Ct.of (lv := [(0, va_rf x0), (1, .int x1), (2, .int x2), (3, .int x3)]) (ls := [some (va_rf x0), some (.int x1), some (.int x2), some (.int x3), none, none]) (by decide) (by simp [lv_args, g_cat_rf, cat_i, cat_l]) rfl (by simp [g_cat_rf, cat_i, cat_l]) (fun G => (t_X10_isAlone_0 N A x0 x1 x2 x3 res h))
abbrev mX10_findOneDay : gM := gMk yX10_findOneDay cX10_findOneDay 5 (some .boolean)
def f_X10_findOneDay_3 (N : Nat) : Nat → hP → Option Nat → Option Nat → Int32 → Int32 → Int32 → Option (Int32 × hP)
  | 0, _, _, _, _, _, _ => none
  | n + 1, A, x0, x1, x2, x3, x4 => (oCk A x1 2).bind fun _ => (f_X2_allThings N A x1).bind fun q1 => if q1.1 < x4 then (if (0 : Int32) = 0 ∨ (0 : Int32) = 1 then some ((0 : Int32), q1.2) else none) else ((oR q1.2 x1 2 10).bind fun v2 => (oI q1.2 x0 9 6).bind fun v3 => (oS q1.2 v2 0 v3 x4).bind fun A4 => (oI A4 x0 9 6).bind fun v5 => (oCk A4 x0 9).bind fun _ => (f_X10_takeDay N A4 x0 x1 v5).bind fun q6 => (oI q6.2 x0 9 6).bind fun v7 => (oCk q6.2 x0 9).bind fun _ => (f_X10_isAlone N q6.2 x0 x3 x2 v7).bind fun q8 => if q8.1 = (0) then (f_X10_findOneDay_3 N n q8.2 x0 x1 x2 x3 (x4 + (1 : Int32))) else ((oP q8.2 x0 9 0 (.int (1 : Int32))).bind fun A9 => (oP A9 x0 9 2 (.int x4)).bind fun A10 => if (1 : Int32) = 0 ∨ (1 : Int32) = 1 then some ((1 : Int32), A10) else none))
set_option maxRecDepth 20000 in
set_option maxHeartbeats 4000000 in
theorem t_X10_findOneDay_3 {l : Launch} {G : gS} (N : Nat) : ∀ (n : Nat) (A : hP) (x0 : Option Nat) (x1 : Option Nat) (x2 : Int32) (x3 : Int32) (x4 : Int32) (res : Int32 × hP), f_X10_findOneDay_3 N n A x0 x1 x2 x3 x4 = some res → AW l mX10_findOneDay (g_rm 4 0 0) G (g_Qf G (gi res) 0 0) A 0 0 3 [some (va_rf x0), some (va_rf x1), some (.int x2), some (.int x3), some (.int x4)] [] := by
  intro n
  induction n with
  | zero => intro A x0 x1 x2 x3 x4 res h; cases h
  | succ n ih =>
    intro A x0 x1 x2 x3 x4 res h
    rw [f_X10_findOneDay_3] at h
    refine AW_iload dX10_findOneDay_3 rfl ?_
    refine AW_aload_n dX10_findOneDay_5 rfl ?_
    refine AW_callVi (y := yX2_allThings) (cc := cX2_allThings) (n := 1) (d := 0) (mc := 0) (ms := 0) (np := 0) (ret := (some .int)) (As := []) (st := [.int x4]) (ci := 2) dX10_findOneDay_6 gT_s rfl tM_X10_147 tI_X2_allThings tSel_X2_X2_X2_allThings tIni_X2 tY_X2_allThings (by decide +kernel) ⟨by decide, by decide⟩ ⟨by decide, by decide⟩ (Nat.le_of_ble_eq_true rfl) rfl h (fun q hq => c_X2_allThings N _ _ q hq) (fun q1 _ h => ?_)
    refine AW_icmp_gt (tgt := 64) dX10_findOneDay_9 (by decide) h (fun _ h => ?_) (fun _ h => ?_)
    · refine AW_iconst (v := 0) dX10_findOneDay_64 (by decide) ?_
      exact AW_zret dX10_findOneDay_65 rfl ⟨Nat.zero_le _, Nat.zero_le _⟩ h
    · refine AW_aload_n dX10_findOneDay_12 rfl ?_
      refine AW_getR (ci := 2) (k0 := 10) (C := RX2) (T := TX2) (N := 11) dX10_findOneDay_13 rfl (gT_u tU_X2) (by decide) (List.mem_cons_of_mem _ tF_X10_151) h (fun v2 _ h => ?_)
      refine AW_aload_n dX10_findOneDay_16 rfl ?_
      refine AW_getI (ci := 9) (k0 := 6) (C := RX10) (T := TX10) (N := 13) dX10_findOneDay_17 rfl (gT_u tU_X10) (by decide) (List.mem_cons_of_mem _ tF_X10_31) h (fun v3 _ h => ?_)
      refine AW_iload dX10_findOneDay_20 rfl ?_
      refine AW_iast dX10_findOneDay_22 h (fun A4 _ h => ?_)
      refine AW_aload_n dX10_findOneDay_23 rfl ?_
      refine AW_aload_n dX10_findOneDay_24 rfl ?_
      refine AW_aload_n dX10_findOneDay_25 rfl ?_
      refine AW_getI (ci := 9) (k0 := 6) (C := RX10) (T := TX10) (N := 13) dX10_findOneDay_26 rfl (gT_u tU_X10) (by decide) (List.mem_cons_of_mem _ tF_X10_31) h (fun v5 _ h => ?_)
      refine AW_callVu (y := yX10_takeDay) (cc := cX10_takeDay) (n := 3) (d := 3) (mc := 0) (ms := 0) (np := 2) (ret := none) (As := [va_rf x1, .int v5]) (st := []) (ci := 9) dX10_findOneDay_29 gT_s rfl tM_X10_58 tI_X10_takeDay selp_X10_takeDay tIni_X10 tY_X10_takeDay (by decide +kernel) ⟨by decide, by decide⟩ ⟨by decide, by decide⟩ (Nat.le_of_ble_eq_true rfl) rfl h (fun q hq => c_X10_takeDay N _ _ _ _ q hq) (fun q6 _ h => ?_)
      refine AW_aload_n dX10_findOneDay_32 rfl ?_
      refine AW_iload_n dX10_findOneDay_33 rfl ?_
      refine AW_iload_n dX10_findOneDay_34 rfl ?_
      refine AW_aload_n dX10_findOneDay_35 rfl ?_
      refine AW_getI (ci := 9) (k0 := 6) (C := RX10) (T := TX10) (N := 13) dX10_findOneDay_36 rfl (gT_u tU_X10) (by decide) (List.mem_cons_of_mem _ tF_X10_31) h (fun v7 _ h => ?_)
      refine AW_callVi (y := yX10_isAlone) (cc := cX10_isAlone) (n := 6) (d := 2) (mc := 0) (ms := 0) (np := 3) (ret := (some .boolean)) (As := [.int x3, .int x2, .int v7]) (st := []) (ci := 9) dX10_findOneDay_39 gT_s rfl tM_X10_154 tI_X10_isAlone selp_X10_isAlone tIni_X10 tY_X10_isAlone (by decide +kernel) ⟨by decide, by decide⟩ ⟨by decide, by decide⟩ (Nat.le_of_ble_eq_true rfl) rfl h (fun q hq => c_X10_isAlone N _ _ _ _ _ q hq) (fun q8 _ h => ?_)
      refine AW_if_eq (tgt := 58) dX10_findOneDay_42 (by decide) h (fun _ h => ?_) (fun _ h => ?_)
      · refine AW_iinc (v := 1) (ls' := [some (va_rf x0), some (va_rf x1), some (.int x2), some (.int x3), some (.int (x4 + (1 : Int32)))]) dX10_findOneDay_58 rfl (c1_i rfl) (by decide) (by decide) rfl ?_
        refine AW_goto (tgt := 3) dX10_findOneDay_61 (by decide) ?_
        exact (ih _ _ _ _ _ _ _ h)
      · refine AW_aload_n dX10_findOneDay_45 rfl ?_
        refine AW_iconst (v := 1) dX10_findOneDay_46 (by decide) ?_
        refine AW_put (ci := 9) (k0 := 0) (C := RX10) (T := TX10) (N := 13) (ty0 := tyX10) dX10_findOneDay_47 rfl (gT_u tU_X10) tyX10_ok nmX10 (by decide) (List.mem_cons_of_mem _ tF_X10_117) (Or.inl rfl) rfl rfl h (fun A9 _ h => ?_)
        refine AW_aload_n dX10_findOneDay_50 rfl ?_
        refine AW_iload dX10_findOneDay_51 rfl ?_
        refine AW_put (ci := 9) (k0 := 2) (C := RX10) (T := TX10) (N := 13) (ty0 := tyX10) dX10_findOneDay_53 rfl (gT_u tU_X10) tyX10_ok nmX10 (by decide) (List.mem_cons_of_mem _ tF_X10_120) (Or.inl rfl) rfl rfl h (fun A10 _ h => ?_)
        refine AW_iconst (v := 1) dX10_findOneDay_56 (by decide) ?_
        exact AW_zret dX10_findOneDay_57 rfl ⟨Nat.zero_le _, Nat.zero_le _⟩ h
def f_X10_findOneDay_0 (N : Nat) (A : hP) (x0 : Option Nat) (x1 : Option Nat) (x2 : Int32) (x3 : Int32) : Option (Int32 × hP) := f_X10_findOneDay_3 N N A x0 x1 x2 x3 (0 : Int32)
set_option maxRecDepth 20000 in
set_option maxHeartbeats 4000000 in
theorem t_X10_findOneDay_0 {l : Launch} {G : gS} (N : Nat) (A : hP) (x0 : Option Nat) (x1 : Option Nat) (x2 : Int32) (x3 : Int32) (res : Int32 × hP) (h : f_X10_findOneDay_0 N A x0 x1 x2 x3 = some res) : AW l mX10_findOneDay (g_rm 4 0 0) G (g_Qf G (gi res) 0 0) A 0 0 0 [some (va_rf x0), some (va_rf x1), some (.int x2), some (.int x3), none] [] := by
  unfold f_X10_findOneDay_0 at h
  refine AW_iconst (v := 0) dX10_findOneDay_0 (by decide) ?_
  refine AW_istore (ls' := [some (va_rf x0), some (va_rf x1), some (.int x2), some (.int x3), some (.int (0 : Int32))]) dX10_findOneDay_1 (c1_i rfl) (by decide) rfl ?_
  exact (t_X10_findOneDay_3 N N _ _ _ _ _ _ _ h)
def f_X10_findOneDay (N : Nat) (A : hP) (x0 : Option Nat) (x1 : Option Nat) (x2 : Int32) (x3 : Int32) : Option (Int32 × hP) := f_X10_findOneDay_0 N A x0 x1 x2 x3
set_option maxRecDepth 20000 in
theorem c_X10_findOneDay {l : Launch} (N : Nat) (A : hP) (x0 : Option Nat) (x1 : Option Nat) (x2 : Int32) (x3 : Int32) (res : Int32 × hP) (h : f_X10_findOneDay N A x0 x1 x2 x3 = some res) : Ct l mX10_findOneDay 4 0 0 A [va_rf x0, va_rf x1, .int x2, .int x3] (gi res) := Ct.of (lv := [(0, va_rf x0), (1, va_rf x1), (2, .int x2), (3, .int x3)]) (ls := [some (va_rf x0), some (va_rf x1), some (.int x2), some (.int x3), none]) (by decide) (by simp [lv_args, g_cat_rf, cat_i, cat_l]) rfl (by simp [g_cat_rf, cat_i, cat_l]) (fun G => (t_X10_findOneDay_0 N A x0 x1 x2 x3 res h))
abbrev mX10_bringForward : gM := gMk yX10_bringForward cX10_bringForward 7 (some .int)
def f_X10_bringForward_71 (N : Nat) (r16 : hP → Option Nat → Int32 → Int32 → Int32 → Int32 → Option (Int32 × hP)) (A : hP) (x0 : Option Nat) (x2 : Int32) (x3 : Int32) (x4 : Int32) (x5 : Int32) : Option (Int32 × hP) := r16 A x0 x2 x3 x4 (x5 + (1 : Int32))
set_option maxRecDepth 20000 in
set_option maxHeartbeats 4000000 in
theorem t_X10_bringForward_71 {l : Launch} {G : gS} (N : Nat) (r16 : hP → Option Nat → Int32 → Int32 → Int32 → Int32 → Option (Int32 × hP)) (hr16 : ∀ (A : hP) (x0 : Option Nat) (x2 : Int32) (x3 : Int32) (x4 : Int32) (x5 : Int32) (res : Int32 × hP), r16 A x0 x2 x3 x4 x5 = some res → AW l mX10_bringForward (g_rm 2 0 0) G (g_Qf G (gi res) 0 0) A 0 0 16 [some (va_rf x0), none, some (.int x2), some (.int x3), some (.int x4), some (.int x5), none] []) (A : hP) (x0 : Option Nat) (x2 : Int32) (x3 : Int32) (x4 : Int32) (x5 : Int32) (res : Int32 × hP) (h : f_X10_bringForward_71 N r16 A x0 x2 x3 x4 x5 = some res) : AW l mX10_bringForward (g_rm 2 0 0) G (g_Qf G (gi res) 0 0) A 0 0 71 [some (va_rf x0), none, some (.int x2), some (.int x3), some (.int x4), some (.int x5), none] [] := by
  unfold f_X10_bringForward_71 at h
  refine AW_iinc (v := 1) (ls' := [some (va_rf x0), none, some (.int x2), some (.int x3), some (.int x4), some (.int (x5 + (1 : Int32))), none]) dX10_bringForward_71 rfl (c1_i rfl) (by decide) (by decide) rfl ?_
  refine AW_goto (tgt := 16) dX10_bringForward_74 (by decide) ?_
  exact (hr16 _ _ _ _ _ _ _ h)
def f_X10_bringForward_16 (N : Nat) : Nat → hP → Option Nat → Int32 → Int32 → Int32 → Int32 → Option (Int32 × hP)
  | 0, _, _, _, _, _, _ => none
  | n + 1, A, x0, x2, x3, x4, x5 => if x2 ≤ x5 then (some (x4, A)) else ((oR A x0 9 12).bind fun v1 => (oA A v1 0 x5).bind fun v2 => (oI A x0 9 6).bind fun v3 => (oCk A x0 9).bind fun _ => (f_X10_shownIn N A x0 v2 v3).bind fun q4 => if q4.1 = x3 then ((oR q4.2 x0 9 12).bind fun v5 => (oR q4.2 x0 9 12).bind fun v6 => (oA q4.2 v6 0 x4).bind fun v7 => (oS q4.2 v5 0 x5 v7).bind fun A8 => (oR A8 x0 9 12).bind fun v9 => (oS A8 v9 0 x4 v2).bind fun A10 => f_X10_bringForward_71 N (f_X10_bringForward_16 N n) A10 x0 x2 x3 (x4 + (1 : Int32)) x5) else (f_X10_bringForward_71 N (f_X10_bringForward_16 N n) q4.2 x0 x2 x3 x4 x5))
set_option maxRecDepth 20000 in
set_option maxHeartbeats 4000000 in
theorem t_X10_bringForward_16 {l : Launch} {G : gS} (N : Nat) : ∀ (n : Nat) (A : hP) (x0 : Option Nat) (x2 : Int32) (x3 : Int32) (x4 : Int32) (x5 : Int32) (res : Int32 × hP), f_X10_bringForward_16 N n A x0 x2 x3 x4 x5 = some res → AW l mX10_bringForward (g_rm 2 0 0) G (g_Qf G (gi res) 0 0) A 0 0 16 [some (va_rf x0), none, some (.int x2), some (.int x3), some (.int x4), some (.int x5), none] [] := by
  intro n
  induction n with
  | zero => intro A x0 x2 x3 x4 x5 res h; cases h
  | succ n ih =>
    intro A x0 x2 x3 x4 x5 res h
    rw [f_X10_bringForward_16] at h
    refine AW_iload dX10_bringForward_16 rfl ?_
    refine AW_iload_n dX10_bringForward_18 rfl ?_
    refine AW_icmp_ge (tgt := 77) dX10_bringForward_19 (by decide) h (fun _ h => ?_) (fun _ h => ?_)
    · refine AW_iload dX10_bringForward_77 rfl ?_
      exact AW_iret dX10_bringForward_79 rfl ⟨Nat.zero_le _, Nat.zero_le _⟩ h
    · refine AW_aload_n dX10_bringForward_22 rfl ?_
      refine AW_getR (ci := 9) (k0 := 12) (C := RX10) (T := TX10) (N := 13) dX10_bringForward_23 rfl (gT_u tU_X10) (by decide) (List.mem_cons_of_mem _ tF_X10_24) h (fun v1 _ h => ?_)
      refine AW_iload dX10_bringForward_26 rfl ?_
      refine AW_iald dX10_bringForward_28 h (fun v2 _ h => ?_)
      refine AW_istore (ls' := [some (va_rf x0), none, some (.int x2), some (.int x3), some (.int x4), some (.int x5), some (.int v2)]) dX10_bringForward_29 (c1_i rfl) (by decide) rfl ?_
      refine AW_aload_n dX10_bringForward_31 rfl ?_
      refine AW_iload dX10_bringForward_32 rfl ?_
      refine AW_aload_n dX10_bringForward_34 rfl ?_
      refine AW_getI (ci := 9) (k0 := 6) (C := RX10) (T := TX10) (N := 13) dX10_bringForward_35 rfl (gT_u tU_X10) (by decide) (List.mem_cons_of_mem _ tF_X10_31) h (fun v3 _ h => ?_)
      refine AW_callVi (y := yX10_shownIn) (cc := cX10_shownIn) (n := 9) (d := 1) (mc := 0) (ms := 0) (np := 2) (ret := (some .int)) (As := [.int v2, .int v3]) (st := []) (ci := 9) dX10_bringForward_38 gT_s rfl tM_X10_93 tI_X10_shownIn selp_X10_shownIn tIni_X10 tY_X10_shownIn (by decide +kernel) ⟨by decide, by decide⟩ ⟨by decide, by decide⟩ (Nat.le_of_ble_eq_true rfl) rfl h (fun q hq => c_X10_shownIn N _ _ _ _ q hq) (fun q4 _ h => ?_)
      refine AW_iload_n dX10_bringForward_41 rfl ?_
      refine AW_icmp_ne (tgt := 71) dX10_bringForward_42 (by decide) h (fun _ h => ?_) (fun _ h => ?_)
      · exact AW_fewer (fw_k (fw_k (fw_k (fw_k (fw_k (fw_k (fw_d fw_n))))))) (t_X10_bringForward_71 N (f_X10_bringForward_16 N n) ih _ _ _ _ _ _ _ h)
      · refine AW_aload_n dX10_bringForward_45 rfl ?_
        refine AW_getR (ci := 9) (k0 := 12) (C := RX10) (T := TX10) (N := 13) dX10_bringForward_46 rfl (gT_u tU_X10) (by decide) (List.mem_cons_of_mem _ tF_X10_24) h (fun v5 _ h => ?_)
        refine AW_iload dX10_bringForward_49 rfl ?_
        refine AW_aload_n dX10_bringForward_51 rfl ?_
        refine AW_getR (ci := 9) (k0 := 12) (C := RX10) (T := TX10) (N := 13) dX10_bringForward_52 rfl (gT_u tU_X10) (by decide) (List.mem_cons_of_mem _ tF_X10_24) h (fun v6 _ h => ?_)
        refine AW_iload dX10_bringForward_55 rfl ?_
        refine AW_iald dX10_bringForward_57 h (fun v7 _ h => ?_)
        refine AW_iast dX10_bringForward_58 h (fun A8 _ h => ?_)
        refine AW_aload_n dX10_bringForward_59 rfl ?_
        refine AW_getR (ci := 9) (k0 := 12) (C := RX10) (T := TX10) (N := 13) dX10_bringForward_60 rfl (gT_u tU_X10) (by decide) (List.mem_cons_of_mem _ tF_X10_24) h (fun v9 _ h => ?_)
        refine AW_iload dX10_bringForward_63 rfl ?_
        refine AW_iload dX10_bringForward_65 rfl ?_
        refine AW_iast dX10_bringForward_67 h (fun A10 _ h => ?_)
        refine AW_iinc (v := 1) (ls' := [some (va_rf x0), none, some (.int x2), some (.int x3), some (.int (x4 + (1 : Int32))), some (.int x5), some (.int v2)]) dX10_bringForward_68 rfl (c1_i rfl) (by decide) (by decide) rfl ?_
        exact AW_fewer (fw_k (fw_k (fw_k (fw_k (fw_k (fw_k (fw_d fw_n))))))) (t_X10_bringForward_71 N (f_X10_bringForward_16 N n) ih _ _ _ _ _ _ _ h)
def f_X10_bringForward_0 (N : Nat) (A : hP) (x0 : Option Nat) (x1 : Int32) (x2 : Int32) : Option (Int32 × hP) := (oI A x0 9 6).bind fun v11 => (oCk A x0 9).bind fun _ => (f_X10_shownIn N A x0 x1 v11).bind fun q12 => f_X10_bringForward_16 N N q12.2 x0 x2 q12.1 (0 : Int32) (0 : Int32)
set_option maxRecDepth 20000 in
set_option maxHeartbeats 4000000 in
theorem t_X10_bringForward_0 {l : Launch} {G : gS} (N : Nat) (A : hP) (x0 : Option Nat) (x1 : Int32) (x2 : Int32) (res : Int32 × hP) (h : f_X10_bringForward_0 N A x0 x1 x2 = some res) : AW l mX10_bringForward (g_rm 2 0 0) G (g_Qf G (gi res) 0 0) A 0 0 0 [some (va_rf x0), some (.int x1), some (.int x2), none, none, none, none] [] := by
  unfold f_X10_bringForward_0 at h
  refine AW_aload_n dX10_bringForward_0 rfl ?_
  refine AW_iload_n dX10_bringForward_1 rfl ?_
  refine AW_aload_n dX10_bringForward_2 rfl ?_
  refine AW_getI (ci := 9) (k0 := 6) (C := RX10) (T := TX10) (N := 13) dX10_bringForward_3 rfl (gT_u tU_X10) (by decide) (List.mem_cons_of_mem _ tF_X10_31) h (fun v11 _ h => ?_)
  refine AW_callVi (y := yX10_shownIn) (cc := cX10_shownIn) (n := 9) (d := 1) (mc := 0) (ms := 0) (np := 2) (ret := (some .int)) (As := [.int x1, .int v11]) (st := []) (ci := 9) dX10_bringForward_6 gT_s rfl tM_X10_93 tI_X10_shownIn selp_X10_shownIn tIni_X10 tY_X10_shownIn (by decide +kernel) ⟨by decide, by decide⟩ ⟨by decide, by decide⟩ (Nat.le_of_ble_eq_true rfl) rfl h (fun q hq => c_X10_shownIn N _ _ _ _ q hq) (fun q12 _ h => ?_)
  refine AW_istore_n (ls' := [some (va_rf x0), some (.int x1), some (.int x2), some (.int q12.1), none, none, none]) dX10_bringForward_9 (c1_i rfl) (by decide) rfl ?_
  refine AW_iconst (v := 0) dX10_bringForward_10 (by decide) ?_
  refine AW_istore (ls' := [some (va_rf x0), some (.int x1), some (.int x2), some (.int q12.1), some (.int (0 : Int32)), none, none]) dX10_bringForward_11 (c1_i rfl) (by decide) rfl ?_
  refine AW_iconst (v := 0) dX10_bringForward_13 (by decide) ?_
  refine AW_istore (ls' := [some (va_rf x0), some (.int x1), some (.int x2), some (.int q12.1), some (.int (0 : Int32)), some (.int (0 : Int32)), none]) dX10_bringForward_14 (c1_i rfl) (by decide) rfl ?_
  exact AW_fewer (fw_k (fw_d (fw_k (fw_k (fw_k (fw_k (fw_k fw_n))))))) (t_X10_bringForward_16 N N _ _ _ _ _ _ _ h)
def f_X10_bringForward (N : Nat) (A : hP) (x0 : Option Nat) (x1 : Int32) (x2 : Int32) : Option (Int32 × hP) := f_X10_bringForward_0 N A x0 x1 x2
set_option maxRecDepth 20000 in
theorem c_X10_bringForward {l : Launch} (N : Nat) (A : hP) (x0 : Option Nat) (x1 : Int32) (x2 : Int32) (res : Int32 × hP) (h : f_X10_bringForward N A x0 x1 x2 = some res) : Ct l mX10_bringForward 2 0 0 A [va_rf x0, .int x1, .int x2] (gi res) := Ct.of (lv := [(0, va_rf x0), (1, .int x1), (2, .int x2)]) (ls := [some (va_rf x0), some (.int x1), some (.int x2), none, none, none, none]) (by decide) (by simp [lv_args, g_cat_rf, cat_i, cat_l]) rfl (by simp [g_cat_rf, cat_i, cat_l]) (fun G => (t_X10_bringForward_0 N A x0 x1 x2 res h))
abbrev mX10_findTwoDays : gM := gMk yX10_findTwoDays cX10_findTwoDays 7 none
def f_X10_findTwoDays_43 (N : Nat) (r3 : hP → Option Nat → Option Nat → Int32 → Int32 → Int32 → Option (Unit × hP)) : Nat → hP → Option Nat → Option Nat → Int32 → Int32 → Int32 → Int32 → Int32 → Option (Unit × hP)
  | 0, _, _, _, _, _, _, _, _ => none
  | n + 1, A, x0, x1, x2, x3, x4, x5, x6 => (oCk A x1 2).bind fun _ => (f_X2_allThings N A x1).bind fun q1 => if q1.1 < x6 then (r3 q1.2 x0 x1 x2 x3 (x4 + (1 : Int32))) else ((oR q1.2 x1 2 10).bind fun v2 => (oI q1.2 x0 9 6).bind fun v3 => (oS q1.2 v2 0 (v3 + (1 : Int32)) x6).bind fun A4 => (oI A4 x0 9 6).bind fun v5 => (oCk A4 x0 9).bind fun _ => (f_X10_takeDay N A4 x0 x1 (v5 + (1 : Int32))).bind fun q6 => (oI q6.2 x0 9 6).bind fun v7 => (oCk q6.2 x0 9).bind fun _ => (f_X10_isAlone N q6.2 x0 x3 x5 (v7 + (1 : Int32))).bind fun q8 => if q8.1 = (0) then (f_X10_findTwoDays_43 N r3 n q8.2 x0 x1 x2 x3 x4 x5 (x6 + (1 : Int32))) else ((oP q8.2 x0 9 0 (.int (2 : Int32))).bind fun A9 => (oP A9 x0 9 2 (.int x4)).bind fun A10 => (oP A10 x0 9 3 (.int x6)).bind fun A11 => some ((), A11)))
set_option maxRecDepth 20000 in
set_option maxHeartbeats 4000000 in
theorem t_X10_findTwoDays_43 {l : Launch} {G : gS} (N : Nat) (r3 : hP → Option Nat → Option Nat → Int32 → Int32 → Int32 → Option (Unit × hP)) (hr3 : ∀ (A : hP) (x0 : Option Nat) (x1 : Option Nat) (x2 : Int32) (x3 : Int32) (x4 : Int32) (res : Unit × hP), r3 A x0 x1 x2 x3 x4 = some res → AW l mX10_findTwoDays (g_rm 4 0 0) G (g_Qf G (gu res) 0 0) A 0 0 3 [some (va_rf x0), some (va_rf x1), some (.int x2), some (.int x3), some (.int x4), none, none] []) : ∀ (n : Nat) (A : hP) (x0 : Option Nat) (x1 : Option Nat) (x2 : Int32) (x3 : Int32) (x4 : Int32) (x5 : Int32) (x6 : Int32) (res : Unit × hP), f_X10_findTwoDays_43 N r3 n A x0 x1 x2 x3 x4 x5 x6 = some res → AW l mX10_findTwoDays (g_rm 4 0 0) G (g_Qf G (gu res) 0 0) A 0 0 43 [some (va_rf x0), some (va_rf x1), some (.int x2), some (.int x3), some (.int x4), some (.int x5), some (.int x6)] [] := by
  intro n
  induction n with
  | zero => intro A x0 x1 x2 x3 x4 x5 x6 res h; cases h
  | succ n ih =>
    intro A x0 x1 x2 x3 x4 x5 x6 res h
    rw [f_X10_findTwoDays_43] at h
    refine AW_iload dX10_findTwoDays_43 rfl ?_
    refine AW_aload_n dX10_findTwoDays_45 rfl ?_
    refine AW_callVi (y := yX2_allThings) (cc := cX2_allThings) (n := 1) (d := 0) (mc := 0) (ms := 0) (np := 0) (ret := (some .int)) (As := []) (st := [.int x6]) (ci := 2) dX10_findTwoDays_46 gT_s rfl tM_X10_147 tI_X2_allThings tSel_X2_X2_X2_allThings tIni_X2 tY_X2_allThings (by decide +kernel) ⟨by decide, by decide⟩ ⟨by decide, by decide⟩ (Nat.le_of_ble_eq_true rfl) rfl h (fun q hq => c_X2_allThings N _ _ q hq) (fun q1 _ h => ?_)
    refine AW_icmp_gt (tgt := 116) dX10_findTwoDays_49 (by decide) h (fun _ h => ?_) (fun _ h => ?_)
    · refine AW_iinc (v := 1) (ls' := [some (va_rf x0), some (va_rf x1), some (.int x2), some (.int x3), some (.int (x4 + (1 : Int32))), some (.int x5), some (.int x6)]) dX10_findTwoDays_116 rfl (c1_i rfl) (by decide) (by decide) rfl ?_
      refine AW_goto (tgt := 3) dX10_findTwoDays_119 (by decide) ?_
      exact AW_fewer (fw_k (fw_k (fw_k (fw_k (fw_k (fw_d (fw_d fw_n))))))) (hr3 _ _ _ _ _ _ _ h)
    · refine AW_aload_n dX10_findTwoDays_52 rfl ?_
      refine AW_getR (ci := 2) (k0 := 10) (C := RX2) (T := TX2) (N := 11) dX10_findTwoDays_53 rfl (gT_u tU_X2) (by decide) (List.mem_cons_of_mem _ tF_X10_151) h (fun v2 _ h => ?_)
      refine AW_aload_n dX10_findTwoDays_56 rfl ?_
      refine AW_getI (ci := 9) (k0 := 6) (C := RX10) (T := TX10) (N := 13) dX10_findTwoDays_57 rfl (gT_u tU_X10) (by decide) (List.mem_cons_of_mem _ tF_X10_31) h (fun v3 _ h => ?_)
      refine AW_iconst (v := 1) dX10_findTwoDays_60 (by decide) ?_
      refine AW_iadd dX10_findTwoDays_61 ?_
      refine AW_iload dX10_findTwoDays_62 rfl ?_
      refine AW_iast dX10_findTwoDays_64 h (fun A4 _ h => ?_)
      refine AW_aload_n dX10_findTwoDays_65 rfl ?_
      refine AW_aload_n dX10_findTwoDays_66 rfl ?_
      refine AW_aload_n dX10_findTwoDays_67 rfl ?_
      refine AW_getI (ci := 9) (k0 := 6) (C := RX10) (T := TX10) (N := 13) dX10_findTwoDays_68 rfl (gT_u tU_X10) (by decide) (List.mem_cons_of_mem _ tF_X10_31) h (fun v5 _ h => ?_)
      refine AW_iconst (v := 1) dX10_findTwoDays_71 (by decide) ?_
      refine AW_iadd dX10_findTwoDays_72 ?_
      refine AW_callVu (y := yX10_takeDay) (cc := cX10_takeDay) (n := 3) (d := 3) (mc := 0) (ms := 0) (np := 2) (ret := none) (As := [va_rf x1, .int (v5 + (1 : Int32))]) (st := []) (ci := 9) dX10_findTwoDays_73 gT_s rfl tM_X10_58 tI_X10_takeDay selp_X10_takeDay tIni_X10 tY_X10_takeDay (by decide +kernel) ⟨by decide, by decide⟩ ⟨by decide, by decide⟩ (Nat.le_of_ble_eq_true rfl) rfl h (fun q hq => c_X10_takeDay N _ _ _ _ q hq) (fun q6 _ h => ?_)
      refine AW_aload_n dX10_findTwoDays_76 rfl ?_
      refine AW_iload_n dX10_findTwoDays_77 rfl ?_
      refine AW_iload dX10_findTwoDays_78 rfl ?_
      refine AW_aload_n dX10_findTwoDays_80 rfl ?_
      refine AW_getI (ci := 9) (k0 := 6) (C := RX10) (T := TX10) (N := 13) dX10_findTwoDays_81 rfl (gT_u tU_X10) (by decide) (List.mem_cons_of_mem _ tF_X10_31) h (fun v7 _ h => ?_)
      refine AW_iconst (v := 1) dX10_findTwoDays_84 (by decide) ?_
      refine AW_iadd dX10_findTwoDays_85 ?_
      refine AW_callVi (y := yX10_isAlone) (cc := cX10_isAlone) (n := 6) (d := 2) (mc := 0) (ms := 0) (np := 3) (ret := (some .boolean)) (As := [.int x3, .int x5, .int (v7 + (1 : Int32))]) (st := []) (ci := 9) dX10_findTwoDays_86 gT_s rfl tM_X10_154 tI_X10_isAlone selp_X10_isAlone tIni_X10 tY_X10_isAlone (by decide +kernel) ⟨by decide, by decide⟩ ⟨by decide, by decide⟩ (Nat.le_of_ble_eq_true rfl) rfl h (fun q hq => c_X10_isAlone N _ _ _ _ _ q hq) (fun q8 _ h => ?_)
      refine AW_if_eq (tgt := 110) dX10_findTwoDays_89 (by decide) h (fun _ h => ?_) (fun _ h => ?_)
      · refine AW_iinc (v := 1) (ls' := [some (va_rf x0), some (va_rf x1), some (.int x2), some (.int x3), some (.int x4), some (.int x5), some (.int (x6 + (1 : Int32)))]) dX10_findTwoDays_110 rfl (c1_i rfl) (by decide) (by decide) rfl ?_
        refine AW_goto (tgt := 43) dX10_findTwoDays_113 (by decide) ?_
        exact (ih _ _ _ _ _ _ _ _ _ h)
      · refine AW_aload_n dX10_findTwoDays_92 rfl ?_
        refine AW_iconst (v := 2) dX10_findTwoDays_93 (by decide) ?_
        refine AW_put (ci := 9) (k0 := 0) (C := RX10) (T := TX10) (N := 13) (ty0 := tyX10) dX10_findTwoDays_94 rfl (gT_u tU_X10) tyX10_ok nmX10 (by decide) (List.mem_cons_of_mem _ tF_X10_117) (Or.inl rfl) rfl rfl h (fun A9 _ h => ?_)
        refine AW_aload_n dX10_findTwoDays_97 rfl ?_
        refine AW_iload dX10_findTwoDays_98 rfl ?_
        refine AW_put (ci := 9) (k0 := 2) (C := RX10) (T := TX10) (N := 13) (ty0 := tyX10) dX10_findTwoDays_100 rfl (gT_u tU_X10) tyX10_ok nmX10 (by decide) (List.mem_cons_of_mem _ tF_X10_120) (Or.inl rfl) rfl rfl h (fun A10 _ h => ?_)
        refine AW_aload_n dX10_findTwoDays_103 rfl ?_
        refine AW_iload dX10_findTwoDays_104 rfl ?_
        refine AW_put (ci := 9) (k0 := 3) (C := RX10) (T := TX10) (N := 13) (ty0 := tyX10) dX10_findTwoDays_106 rfl (gT_u tU_X10) tyX10_ok nmX10 (by decide) (List.mem_cons_of_mem _ tF_X10_123) (Or.inl rfl) rfl rfl h (fun A11 _ h => ?_)
        exact AW_vret dX10_findTwoDays_109 rfl ⟨Nat.zero_le _, Nat.zero_le _⟩ h
def f_X10_findTwoDays_3 (N : Nat) : Nat → hP → Option Nat → Option Nat → Int32 → Int32 → Int32 → Option (Unit × hP)
  | 0, _, _, _, _, _, _ => none
  | n + 1, A, x0, x1, x2, x3, x4 => (oCk A x1 2).bind fun _ => (f_X2_allThings N A x1).bind fun q12 => if q12.1 < x4 then (some ((), q12.2)) else ((oR q12.2 x1 2 10).bind fun v13 => (oI q12.2 x0 9 6).bind fun v14 => (oS q12.2 v13 0 v14 x4).bind fun A15 => (oI A15 x0 9 6).bind fun v16 => (oCk A15 x0 9).bind fun _ => (f_X10_takeDay N A15 x0 x1 v16).bind fun q17 => (oCk q17.2 x0 9).bind fun _ => (f_X10_bringForward N q17.2 x0 x3 x2).bind fun q18 => f_X10_findTwoDays_43 N (f_X10_findTwoDays_3 N n) N q18.2 x0 x1 x2 x3 x4 q18.1 (0 : Int32))
set_option maxRecDepth 20000 in
set_option maxHeartbeats 4000000 in
theorem t_X10_findTwoDays_3 {l : Launch} {G : gS} (N : Nat) : ∀ (n : Nat) (A : hP) (x0 : Option Nat) (x1 : Option Nat) (x2 : Int32) (x3 : Int32) (x4 : Int32) (res : Unit × hP), f_X10_findTwoDays_3 N n A x0 x1 x2 x3 x4 = some res → AW l mX10_findTwoDays (g_rm 4 0 0) G (g_Qf G (gu res) 0 0) A 0 0 3 [some (va_rf x0), some (va_rf x1), some (.int x2), some (.int x3), some (.int x4), none, none] [] := by
  intro n
  induction n with
  | zero => intro A x0 x1 x2 x3 x4 res h; cases h
  | succ n ih =>
    intro A x0 x1 x2 x3 x4 res h
    rw [f_X10_findTwoDays_3] at h
    refine AW_iload dX10_findTwoDays_3 rfl ?_
    refine AW_aload_n dX10_findTwoDays_5 rfl ?_
    refine AW_callVi (y := yX2_allThings) (cc := cX2_allThings) (n := 1) (d := 0) (mc := 0) (ms := 0) (np := 0) (ret := (some .int)) (As := []) (st := [.int x4]) (ci := 2) dX10_findTwoDays_6 gT_s rfl tM_X10_147 tI_X2_allThings tSel_X2_X2_X2_allThings tIni_X2 tY_X2_allThings (by decide +kernel) ⟨by decide, by decide⟩ ⟨by decide, by decide⟩ (Nat.le_of_ble_eq_true rfl) rfl h (fun q hq => c_X2_allThings N _ _ q hq) (fun q12 _ h => ?_)
    refine AW_icmp_gt (tgt := 122) dX10_findTwoDays_9 (by decide) h (fun _ h => ?_) (fun _ h => ?_)
    · exact AW_vret dX10_findTwoDays_122 rfl ⟨Nat.zero_le _, Nat.zero_le _⟩ h
    · refine AW_aload_n dX10_findTwoDays_12 rfl ?_
      refine AW_getR (ci := 2) (k0 := 10) (C := RX2) (T := TX2) (N := 11) dX10_findTwoDays_13 rfl (gT_u tU_X2) (by decide) (List.mem_cons_of_mem _ tF_X10_151) h (fun v13 _ h => ?_)
      refine AW_aload_n dX10_findTwoDays_16 rfl ?_
      refine AW_getI (ci := 9) (k0 := 6) (C := RX10) (T := TX10) (N := 13) dX10_findTwoDays_17 rfl (gT_u tU_X10) (by decide) (List.mem_cons_of_mem _ tF_X10_31) h (fun v14 _ h => ?_)
      refine AW_iload dX10_findTwoDays_20 rfl ?_
      refine AW_iast dX10_findTwoDays_22 h (fun A15 _ h => ?_)
      refine AW_aload_n dX10_findTwoDays_23 rfl ?_
      refine AW_aload_n dX10_findTwoDays_24 rfl ?_
      refine AW_aload_n dX10_findTwoDays_25 rfl ?_
      refine AW_getI (ci := 9) (k0 := 6) (C := RX10) (T := TX10) (N := 13) dX10_findTwoDays_26 rfl (gT_u tU_X10) (by decide) (List.mem_cons_of_mem _ tF_X10_31) h (fun v16 _ h => ?_)
      refine AW_callVu (y := yX10_takeDay) (cc := cX10_takeDay) (n := 3) (d := 3) (mc := 0) (ms := 0) (np := 2) (ret := none) (As := [va_rf x1, .int v16]) (st := []) (ci := 9) dX10_findTwoDays_29 gT_s rfl tM_X10_58 tI_X10_takeDay selp_X10_takeDay tIni_X10 tY_X10_takeDay (by decide +kernel) ⟨by decide, by decide⟩ ⟨by decide, by decide⟩ (Nat.le_of_ble_eq_true rfl) rfl h (fun q hq => c_X10_takeDay N _ _ _ _ q hq) (fun q17 _ h => ?_)
      refine AW_aload_n dX10_findTwoDays_32 rfl ?_
      refine AW_iload_n dX10_findTwoDays_33 rfl ?_
      refine AW_iload_n dX10_findTwoDays_34 rfl ?_
      refine AW_callVi (y := yX10_bringForward) (cc := cX10_bringForward) (n := 7) (d := 2) (mc := 0) (ms := 0) (np := 2) (ret := (some .int)) (As := [.int x3, .int x2]) (st := []) (ci := 9) dX10_findTwoDays_35 gT_s rfl tM_X10_158 tI_X10_bringForward selp_X10_bringForward tIni_X10 tY_X10_bringForward (by decide +kernel) ⟨by decide, by decide⟩ ⟨by decide, by decide⟩ (Nat.le_of_ble_eq_true rfl) rfl h (fun q hq => c_X10_bringForward N _ _ _ _ q hq) (fun q18 _ h => ?_)
      refine AW_istore (ls' := [some (va_rf x0), some (va_rf x1), some (.int x2), some (.int x3), some (.int x4), some (.int q18.1), none]) dX10_findTwoDays_38 (c1_i rfl) (by decide) rfl ?_
      refine AW_iconst (v := 0) dX10_findTwoDays_40 (by decide) ?_
      refine AW_istore (ls' := [some (va_rf x0), some (va_rf x1), some (.int x2), some (.int x3), some (.int x4), some (.int q18.1), some (.int (0 : Int32))]) dX10_findTwoDays_41 (c1_i rfl) (by decide) rfl ?_
      exact (t_X10_findTwoDays_43 N (f_X10_findTwoDays_3 N n) ih N _ _ _ _ _ _ _ _ _ h)
def f_X10_findTwoDays_0 (N : Nat) (A : hP) (x0 : Option Nat) (x1 : Option Nat) (x2 : Int32) (x3 : Int32) : Option (Unit × hP) := f_X10_findTwoDays_3 N N A x0 x1 x2 x3 (0 : Int32)
set_option maxRecDepth 20000 in
set_option maxHeartbeats 4000000 in
theorem t_X10_findTwoDays_0 {l : Launch} {G : gS} (N : Nat) (A : hP) (x0 : Option Nat) (x1 : Option Nat) (x2 : Int32) (x3 : Int32) (res : Unit × hP) (h : f_X10_findTwoDays_0 N A x0 x1 x2 x3 = some res) : AW l mX10_findTwoDays (g_rm 4 0 0) G (g_Qf G (gu res) 0 0) A 0 0 0 [some (va_rf x0), some (va_rf x1), some (.int x2), some (.int x3), none, none, none] [] := by
  unfold f_X10_findTwoDays_0 at h
  refine AW_iconst (v := 0) dX10_findTwoDays_0 (by decide) ?_
  refine AW_istore (ls' := [some (va_rf x0), some (va_rf x1), some (.int x2), some (.int x3), some (.int (0 : Int32)), none, none]) dX10_findTwoDays_1 (c1_i rfl) (by decide) rfl ?_
  exact (t_X10_findTwoDays_3 N N _ _ _ _ _ _ _ h)
def f_X10_findTwoDays (N : Nat) (A : hP) (x0 : Option Nat) (x1 : Option Nat) (x2 : Int32) (x3 : Int32) : Option (Unit × hP) := f_X10_findTwoDays_0 N A x0 x1 x2 x3
set_option maxRecDepth 20000 in
theorem c_X10_findTwoDays {l : Launch} (N : Nat) (A : hP) (x0 : Option Nat) (x1 : Option Nat) (x2 : Int32) (x3 : Int32) (res : Unit × hP) (h : f_X10_findTwoDays N A x0 x1 x2 x3 = some res) : Ct l mX10_findTwoDays 4 0 0 A [va_rf x0, va_rf x1, .int x2, .int x3] (gu res) := Ct.of (lv := [(0, va_rf x0), (1, va_rf x1), (2, .int x2), (3, .int x3)]) (ls := [some (va_rf x0), some (va_rf x1), some (.int x2), some (.int x3), none, none, none]) (by decide) (by simp [lv_args, g_cat_rf, cat_i, cat_l]) rfl (by simp [g_cat_rf, cat_i, cat_l]) (fun G => (t_X10_findTwoDays_0 N A x0 x1 x2 x3 res h))
abbrev mX10_learnSoon : gM := gMk yX10_learnSoon cX10_learnSoon 4 none
def f_X10_learnSoon_63 (N : Nat) (A : hP) : Option (Unit × hP) := some ((), A)
set_option maxRecDepth 20000 in
set_option maxHeartbeats 4000000 in
theorem t_X10_learnSoon_63 {l : Launch} {G : gS} (N : Nat) (A : hP) (res : Unit × hP) (h : f_X10_learnSoon_63 N A  = some res) : AW l mX10_learnSoon (g_rm 5 0 0) G (g_Qf G (gu res) 0 0) A 0 0 63 [none, none, none, none] [] := by
  unfold f_X10_learnSoon_63 at h
  exact AW_vret dX10_learnSoon_63 rfl ⟨Nat.zero_le _, Nat.zero_le _⟩ h
def f_X10_learnSoon_0 (N : Nat) (A : hP) (x0 : Option Nat) (x1 : Option Nat) : Option (Unit × hP) := (oI A x0 9 1).bind fun v1 => if v1 = (0) then ((oPz A x0 9 1 (1 : Int32)).bind fun A2 => (oP A2 x0 9 0 (.int (-1000000 : Int32))).bind fun A3 => (oCk A3 x0 9).bind fun _ => (f_X10_take N A3 x0 x1).bind fun q4 => (oCk q4.2 x0 9).bind fun _ => (f_X10_gatherTrue N q4.2 x0 x1).bind fun q5 => if q5.1 = (1 : Int32) then ((oP q5.2 x0 9 0 (.int (0 : Int32))).bind fun A9 => some ((), A9)) else ((f_X10_worldOf N q5.2 x1).bind fun q6 => (oCk q6.2 x0 9).bind fun _ => (f_X10_findOneDay N q6.2 x0 x1 q5.1 q6.1).bind fun q7 => if q7.1 = (0) then ((oCk q7.2 x0 9).bind fun _ => (f_X10_findTwoDays N q7.2 x0 x1 q5.1 q6.1).bind fun q8 => f_X10_learnSoon_63 N q8.2) else (f_X10_learnSoon_63 N q7.2))) else (some ((), A))
set_option maxRecDepth 20000 in
set_option maxHeartbeats 4000000 in
theorem t_X10_learnSoon_0 {l : Launch} {G : gS} (N : Nat) (A : hP) (x0 : Option Nat) (x1 : Option Nat) (res : Unit × hP) (h : f_X10_learnSoon_0 N A x0 x1 = some res) : AW l mX10_learnSoon (g_rm 5 0 0) G (g_Qf G (gu res) 0 0) A 0 0 0 [some (va_rf x0), some (va_rf x1), none, none] [] := by
  unfold f_X10_learnSoon_0 at h
  refine AW_aload_n dX10_learnSoon_0 rfl ?_
  refine AW_getI (ci := 9) (k0 := 1) (C := RX10) (T := TX10) (N := 13) dX10_learnSoon_1 rfl (gT_u tU_X10) (by decide) (List.mem_cons_of_mem _ tF_X10_113) h (fun v1 _ h => ?_)
  refine AW_if_eq (tgt := 8) dX10_learnSoon_4 (by decide) h (fun _ h => ?_) (fun _ h => ?_)
  · refine AW_aload_n dX10_learnSoon_8 rfl ?_
    refine AW_iconst (v := 1) dX10_learnSoon_9 (by decide) ?_
    refine AW_putZ (ci := 9) (k0 := 1) (C := RX10) (T := TX10) (N := 13) (ty0 := tyX10) dX10_learnSoon_10 rfl (gT_u tU_X10) tyX10_ok nmX10 (by decide) (List.mem_cons_of_mem _ tF_X10_113) rfl rfl h (fun A2 _ h => ?_)
    refine AW_aload_n dX10_learnSoon_13 rfl ?_
    refine AW_ldc (v := -1000000) dX10_learnSoon_14 (List.mem_cons_of_mem _ tK_X10_103) ?_
    refine AW_put (ci := 9) (k0 := 0) (C := RX10) (T := TX10) (N := 13) (ty0 := tyX10) dX10_learnSoon_16 rfl (gT_u tU_X10) tyX10_ok nmX10 (by decide) (List.mem_cons_of_mem _ tF_X10_117) (Or.inl rfl) rfl rfl h (fun A3 _ h => ?_)
    refine AW_aload_n dX10_learnSoon_19 rfl ?_
    refine AW_aload_n dX10_learnSoon_20 rfl ?_
    refine AW_callVu (y := yX10_take) (cc := cX10_take) (n := 3) (d := 4) (mc := 0) (ms := 0) (np := 1) (ret := none) (As := [va_rf x1]) (st := []) (ci := 9) dX10_learnSoon_21 gT_s rfl tM_X10_27 tI_X10_take selp_X10_take tIni_X10 tY_X10_take (by decide +kernel) ⟨by decide, by decide⟩ ⟨by decide, by decide⟩ (Nat.le_of_ble_eq_true rfl) rfl h (fun q hq => c_X10_take N _ _ _ q hq) (fun q4 _ h => ?_)
    refine AW_aload_n dX10_learnSoon_24 rfl ?_
    refine AW_aload_n dX10_learnSoon_25 rfl ?_
    refine AW_callVi (y := yX10_gatherTrue) (cc := cX10_gatherTrue) (n := 4) (d := 4) (mc := 0) (ms := 0) (np := 1) (ret := (some .int)) (As := [va_rf x1]) (st := []) (ci := 9) dX10_learnSoon_26 gT_s rfl tM_X10_126 tI_X10_gatherTrue selp_X10_gatherTrue tIni_X10 tY_X10_gatherTrue (by decide +kernel) ⟨by decide, by decide⟩ ⟨by decide, by decide⟩ (Nat.le_of_ble_eq_true rfl) rfl h (fun q hq => c_X10_gatherTrue N _ _ _ q hq) (fun q5 _ h => ?_)
    refine AW_istore_n (ls' := [some (va_rf x0), some (va_rf x1), some (.int q5.1), none]) dX10_learnSoon_29 (c1_r rfl) (by decide) rfl ?_
    refine AW_iload_n dX10_learnSoon_30 rfl ?_
    refine AW_iconst (v := 1) dX10_learnSoon_31 (by decide) ?_
    refine AW_icmp_ne (tgt := 41) dX10_learnSoon_32 (by decide) h (fun _ h => ?_) (fun _ h => ?_)
    · refine AW_aload_n dX10_learnSoon_41 rfl ?_
      refine AW_callSi (y := yX10_worldOf) (cc := cX10_worldOf) (n := 3) (d := 0) (mc := 0) (ms := 0) (np := 1) (ret := (some .int)) (As := [va_rf x1]) (st := []) dX10_learnSoon_42 gT_s tM_X10_130 tS_X10_worldOf tIni_X10 tY_X10_worldOf (by decide +kernel) ⟨by decide, by decide⟩ ⟨by decide, by decide⟩ (Nat.le_of_ble_eq_true rfl) rfl h (fun q hq => c_X10_worldOf N _ _ q hq) (fun q6 _ h => ?_)
      refine AW_istore_n (ls' := [some (va_rf x0), some (va_rf x1), some (.int q5.1), some (.int q6.1)]) dX10_learnSoon_45 (c1_i rfl) (by decide) rfl ?_
      refine AW_aload_n dX10_learnSoon_46 rfl ?_
      refine AW_aload_n dX10_learnSoon_47 rfl ?_
      refine AW_iload_n dX10_learnSoon_48 rfl ?_
      refine AW_iload_n dX10_learnSoon_49 rfl ?_
      refine AW_callVi (y := yX10_findOneDay) (cc := cX10_findOneDay) (n := 5) (d := 4) (mc := 0) (ms := 0) (np := 3) (ret := (some .boolean)) (As := [va_rf x1, .int q5.1, .int q6.1]) (st := []) (ci := 9) dX10_learnSoon_50 gT_s rfl tM_X10_133 tI_X10_findOneDay selp_X10_findOneDay tIni_X10 tY_X10_findOneDay (by decide +kernel) ⟨by decide, by decide⟩ ⟨by decide, by decide⟩ (Nat.le_of_ble_eq_true rfl) rfl h (fun q hq => c_X10_findOneDay N _ _ _ _ _ q hq) (fun q7 _ h => ?_)
      refine AW_if_ne (tgt := 63) dX10_learnSoon_53 (by decide) h (fun _ h => ?_) (fun _ h => ?_)
      · exact AW_fewer (fw_d (fw_d (fw_d (fw_d fw_n)))) (t_X10_learnSoon_63 N _ _ h)
      · refine AW_aload_n dX10_learnSoon_56 rfl ?_
        refine AW_aload_n dX10_learnSoon_57 rfl ?_
        refine AW_iload_n dX10_learnSoon_58 rfl ?_
        refine AW_iload_n dX10_learnSoon_59 rfl ?_
        refine AW_callVu (y := yX10_findTwoDays) (cc := cX10_findTwoDays) (n := 7) (d := 4) (mc := 0) (ms := 0) (np := 3) (ret := none) (As := [va_rf x1, .int q5.1, .int q6.1]) (st := []) (ci := 9) dX10_learnSoon_60 gT_s rfl tM_X10_137 tI_X10_findTwoDays selp_X10_findTwoDays tIni_X10 tY_X10_findTwoDays (by decide +kernel) ⟨by decide, by decide⟩ ⟨by decide, by decide⟩ (Nat.le_of_ble_eq_true rfl) rfl h (fun q hq => c_X10_findTwoDays N _ _ _ _ _ q hq) (fun q8 _ h => ?_)
        exact AW_fewer (fw_d (fw_d (fw_d (fw_d fw_n)))) (t_X10_learnSoon_63 N _ _ h)
    · refine AW_aload_n dX10_learnSoon_35 rfl ?_
      refine AW_iconst (v := 0) dX10_learnSoon_36 (by decide) ?_
      refine AW_put (ci := 9) (k0 := 0) (C := RX10) (T := TX10) (N := 13) (ty0 := tyX10) dX10_learnSoon_37 rfl (gT_u tU_X10) tyX10_ok nmX10 (by decide) (List.mem_cons_of_mem _ tF_X10_117) (Or.inl rfl) rfl rfl h (fun A9 _ h => ?_)
      exact AW_vret dX10_learnSoon_40 rfl ⟨Nat.zero_le _, Nat.zero_le _⟩ h
  · exact AW_vret dX10_learnSoon_7 rfl ⟨Nat.zero_le _, Nat.zero_le _⟩ h
def f_X10_learnSoon (N : Nat) (A : hP) (x0 : Option Nat) (x1 : Option Nat) : Option (Unit × hP) := f_X10_learnSoon_0 N A x0 x1
set_option maxRecDepth 20000 in
theorem c_X10_learnSoon {l : Launch} (N : Nat) (A : hP) (x0 : Option Nat) (x1 : Option Nat) (res : Unit × hP) (h : f_X10_learnSoon N A x0 x1 = some res) : Ct l mX10_learnSoon 5 0 0 A [va_rf x0, va_rf x1] (gu res) := Ct.of (lv := [(0, va_rf x0), (1, va_rf x1)]) (ls := [some (va_rf x0), some (va_rf x1), none, none]) (by decide) (by simp [lv_args, g_cat_rf, cat_i, cat_l]) rfl (by simp [g_cat_rf, cat_i, cat_l]) (fun G => (t_X10_learnSoon_0 N A x0 x1 res h))
abbrev mX10_soonSet : gM := gMk yX10_soonSet cX10_soonSet 2 (some .int)
def f_X10_soonSet_12 (N : Nat) (A : hP) : Option (Int32 × hP) := some ((-1000000 : Int32), A)
set_option maxRecDepth 20000 in
set_option maxHeartbeats 4000000 in
theorem t_X10_soonSet_12 {l : Launch} {G : gS} (N : Nat) (A : hP) (res : Int32 × hP) (h : f_X10_soonSet_12 N A  = some res) : AW l mX10_soonSet (g_rm 0 0 0) G (g_Qf G (gi res) 0 0) A 0 0 12 [none, none] [] := by
  unfold f_X10_soonSet_12 at h
  refine AW_ldc (v := -1000000) dX10_soonSet_12 (List.mem_cons_of_mem _ tK_X10_103) ?_
  exact AW_iret dX10_soonSet_14 rfl ⟨Nat.zero_le _, Nat.zero_le _⟩ h
def f_X10_soonSet_30 (N : Nat) (A : hP) (s0 : Int32) : Option (Int32 × hP) := some (s0, A)
set_option maxRecDepth 20000 in
set_option maxHeartbeats 4000000 in
theorem t_X10_soonSet_30 {l : Launch} {G : gS} (N : Nat) (A : hP) (s0 : Int32) (res : Int32 × hP) (h : f_X10_soonSet_30 N A s0 = some res) : AW l mX10_soonSet (g_rm 0 0 0) G (g_Qf G (gi res) 0 0) A 0 0 30 [none, none] [.int s0] := by
  unfold f_X10_soonSet_30 at h
  exact AW_iret dX10_soonSet_30 rfl ⟨Nat.zero_le _, Nat.zero_le _⟩ h
def f_X10_soonSet_0 (N : Nat) (A : hP) (x0 : Option Nat) (x1 : Int32) : Option (Int32 × hP) := if x1 < (0) then (f_X10_soonSet_12 N A) else ((oI A x0 9 0).bind fun v1 => if x1 < v1 then (if x1 = (0) then ((oI A x0 9 2).bind fun v3 => f_X10_soonSet_30 N A v3) else ((oI A x0 9 3).bind fun v2 => f_X10_soonSet_30 N A v2)) else (f_X10_soonSet_12 N A))
set_option maxRecDepth 20000 in
set_option maxHeartbeats 4000000 in
theorem t_X10_soonSet_0 {l : Launch} {G : gS} (N : Nat) (A : hP) (x0 : Option Nat) (x1 : Int32) (res : Int32 × hP) (h : f_X10_soonSet_0 N A x0 x1 = some res) : AW l mX10_soonSet (g_rm 0 0 0) G (g_Qf G (gi res) 0 0) A 0 0 0 [some (va_rf x0), some (.int x1)] [] := by
  unfold f_X10_soonSet_0 at h
  refine AW_iload_n dX10_soonSet_0 rfl ?_
  refine AW_if_lt (tgt := 12) dX10_soonSet_1 (by decide) h (fun _ h => ?_) (fun _ h => ?_)
  · exact AW_fewer (fw_d (fw_d fw_n)) (t_X10_soonSet_12 N _ _ h)
  · refine AW_iload_n dX10_soonSet_4 rfl ?_
    refine AW_aload_n dX10_soonSet_5 rfl ?_
    refine AW_getI (ci := 9) (k0 := 0) (C := RX10) (T := TX10) (N := 13) dX10_soonSet_6 rfl (gT_u tU_X10) (by decide) (List.mem_cons_of_mem _ tF_X10_117) h (fun v1 _ h => ?_)
    refine AW_icmp_lt (tgt := 15) dX10_soonSet_9 (by decide) h (fun _ h => ?_) (fun _ h => ?_)
    · refine AW_iload_n dX10_soonSet_15 rfl ?_
      refine AW_if_ne (tgt := 26) dX10_soonSet_16 (by decide) h (fun _ h => ?_) (fun _ h => ?_)
      · refine AW_aload_n dX10_soonSet_26 rfl ?_
        refine AW_getI (ci := 9) (k0 := 3) (C := RX10) (T := TX10) (N := 13) dX10_soonSet_27 rfl (gT_u tU_X10) (by decide) (List.mem_cons_of_mem _ tF_X10_123) h (fun v2 _ h => ?_)
        exact AW_fewer (fw_d (fw_d fw_n)) (t_X10_soonSet_30 N _ _ _ h)
      · refine AW_aload_n dX10_soonSet_19 rfl ?_
        refine AW_getI (ci := 9) (k0 := 2) (C := RX10) (T := TX10) (N := 13) dX10_soonSet_20 rfl (gT_u tU_X10) (by decide) (List.mem_cons_of_mem _ tF_X10_120) h (fun v3 _ h => ?_)
        refine AW_goto (tgt := 30) dX10_soonSet_23 (by decide) ?_
        exact AW_fewer (fw_d (fw_d fw_n)) (t_X10_soonSet_30 N _ _ _ h)
    · exact AW_fewer (fw_d (fw_d fw_n)) (t_X10_soonSet_12 N _ _ h)
def f_X10_soonSet (N : Nat) (A : hP) (x0 : Option Nat) (x1 : Int32) : Option (Int32 × hP) := f_X10_soonSet_0 N A x0 x1
set_option maxRecDepth 20000 in
theorem c_X10_soonSet {l : Launch} (N : Nat) (A : hP) (x0 : Option Nat) (x1 : Int32) (res : Int32 × hP) (h : f_X10_soonSet N A x0 x1 = some res) : Ct l mX10_soonSet 0 0 0 A [va_rf x0, .int x1] (gi res) := Ct.of (lv := [(0, va_rf x0), (1, .int x1)]) (ls := [some (va_rf x0), some (.int x1)]) (by decide) (by simp [lv_args, g_cat_rf, cat_i, cat_l]) rfl (by simp [g_cat_rf, cat_i, cat_l]) (fun G => (t_X10_soonSet_0 N A x0 x1 res h))
