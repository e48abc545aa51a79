abbrev mX3_begin : gM := gMk yX3_begin cX3_begin 4 none
def f_X3_begin_17 (N : Nat) : Nat → hP → Option Nat → Int32 → Option (Unit × hP)
  | 0, _, _, _ => none
  | n + 1, A, x0, x3 => if (40 : Int32) ≤ x3 then (some ((), A)) else ((oR A x0 3 3).bind fun v1 => (oS A v1 0 x3 (0 : Int32)).bind fun A2 => f_X3_begin_17 N n A2 x0 (x3 + (1 : Int32)))
set_option maxRecDepth 20000 in
set_option maxHeartbeats 4000000 in
theorem t_X3_begin_17 {l : Launch} {G : gS} (N : Nat) : ∀ (n : Nat) (A : hP) (x0 : Option Nat) (x3 : Int32) (res : Unit × hP), f_X3_begin_17 N n A x0 x3 = some res → AW l mX3_begin (g_rm 0 0 0) G (g_Qf G (gu res) 0 0) A 0 0 17 [some (va_rf x0), none, none, some (.int x3)] [] := by
  intro n
  induction n with
  | zero => intro A x0 x3 res h; cases h
  | succ n ih =>
    intro A x0 x3 res h
    rw [f_X3_begin_17] at h
    refine AW_iload_n dX3_begin_17 rfl ?_
    refine AW_bipush (v := 40) dX3_begin_18 (by decide) ?_
    refine AW_icmp_ge (tgt := 36) dX3_begin_20 (by decide) h (fun _ h => ?_) (fun _ h => ?_)
    · exact AW_vret dX3_begin_36 rfl ⟨Nat.zero_le _, Nat.zero_le _⟩ h
    · refine AW_aload_n dX3_begin_23 rfl ?_
      refine AW_getR (ci := 3) (k0 := 3) (C := RX3) (T := TX3) (N := 4) dX3_begin_24 rfl (gT_u tU_X3) (by decide) (List.mem_cons_of_mem _ tF_X3_9) h (fun v1 _ h => ?_)
      refine AW_iload_n dX3_begin_27 rfl ?_
      refine AW_iconst (v := 0) dX3_begin_28 (by decide) ?_
      refine AW_iast dX3_begin_29 h (fun A2 _ h => ?_)
      refine AW_iinc (v := 1) (ls' := [some (va_rf x0), none, none, some (.int (x3 + (1 : Int32)))]) dX3_begin_30 rfl (c1_n rfl) (by decide) (by decide) rfl ?_
      refine AW_goto (tgt := 17) dX3_begin_33 (by decide) ?_
      exact (ih _ _ _ _ h)
def f_X3_begin_0 (N : Nat) (A : hP) (x0 : Option Nat) (x1 : Int32) (x2 : Int32) : Option (Unit × hP) := (oPz A x0 3 0 (1 : Int32)).bind fun A3 => (oP A3 x0 3 1 (.int x1)).bind fun A4 => (oP A4 x0 3 2 (.int x2)).bind fun A5 => f_X3_begin_17 N N A5 x0 (0 : Int32)
set_option maxRecDepth 20000 in
set_option maxHeartbeats 4000000 in
theorem t_X3_begin_0 {l : Launch} {G : gS} (N : Nat) (A : hP) (x0 : Option Nat) (x1 : Int32) (x2 : Int32) (res : Unit × hP) (h : f_X3_begin_0 N A x0 x1 x2 = some res) : AW l mX3_begin (g_rm 0 0 0) G (g_Qf G (gu res) 0 0) A 0 0 0 [some (va_rf x0), some (.int x1), some (.int x2), none] [] := by
  unfold f_X3_begin_0 at h
  refine AW_aload_n dX3_begin_0 rfl ?_
  refine AW_iconst (v := 1) dX3_begin_1 (by decide) ?_
  refine AW_putZ (ci := 3) (k0 := 0) (C := RX3) (T := TX3) (N := 4) (ty0 := tyX3) dX3_begin_2 rfl (gT_u tU_X3) tyX3_ok nmX3 (by decide) (List.mem_cons_of_mem _ tF_X3_15) rfl rfl h (fun A3 _ h => ?_)
  refine AW_aload_n dX3_begin_5 rfl ?_
  refine AW_iload_n dX3_begin_6 rfl ?_
  refine AW_put (ci := 3) (k0 := 1) (C := RX3) (T := TX3) (N := 4) (ty0 := tyX3) dX3_begin_7 rfl (gT_u tU_X3) tyX3_ok nmX3 (by decide) (List.mem_cons_of_mem _ tF_X3_19) (Or.inl rfl) rfl rfl h (fun A4 _ h => ?_)
  refine AW_aload_n dX3_begin_10 rfl ?_
  refine AW_iload_n dX3_begin_11 rfl ?_
  refine AW_put (ci := 3) (k0 := 2) (C := RX3) (T := TX3) (N := 4) (ty0 := tyX3) dX3_begin_12 rfl (gT_u tU_X3) tyX3_ok nmX3 (by decide) (List.mem_cons_of_mem _ tF_X3_23) (Or.inl rfl) rfl rfl h (fun A5 _ h => ?_)
  refine AW_iconst (v := 0) dX3_begin_15 (by decide) ?_
  refine AW_istore_n (ls' := [some (va_rf x0), some (.int x1), some (.int x2), some (.int (0 : Int32))]) dX3_begin_16 (c1_i rfl) (by decide) rfl ?_
  exact AW_fewer (fw_k (fw_d (fw_d (fw_k fw_n)))) (t_X3_begin_17 N N _ _ _ _ h)
def f_X3_begin (N : Nat) (A : hP) (x0 : Option Nat) (x1 : Int32) (x2 : Int32) : Option (Unit × hP) := f_X3_begin_0 N A x0 x1 x2
set_option maxRecDepth 20000 in
theorem c_X3_begin {l : Launch} (N : Nat) (A : hP) (x0 : Option Nat) (x1 : Int32) (x2 : Int32) (res : Unit × hP) (h : f_X3_begin N A x0 x1 x2 = some res) : Ct l mX3_begin 0 0 0 A [va_rf x0, .int x1, .int x2] (gu res) := Ct.of (lv := [(0, va_rf x0), (1, .int x1), (2, .int x2)]) (ls := [some (va_rf x0), some (.int x1), some (.int x2), none]) (by decide) (by simp [lv_args, g_cat_rf, cat_i, cat_l]) rfl (by simp [g_cat_rf, cat_i, cat_l]) (fun G => (t_X3_begin_0 N A x0 x1 x2 res h))
abbrev mX3_cut : gM := gMk yX3_cut cX3_cut 2 (some .int)
def f_X3_cut_0 (N : Nat) (A : hP) (x0 : Option Nat) (x1 : Int32) : Option (Int32 × hP) := (oI A x0 3 1).bind fun v1 => if v1 = (0 : Int32) then (some (x1.toInt8.toInt32, A)) else (if v1 = (1 : Int32) then (some (x1.toInt16.toInt32, A)) else (some (x1, A)))
set_option maxRecDepth 20000 in
set_option maxHeartbeats 4000000 in
theorem t_X3_cut_0 {l : Launch} {G : gS} (N : Nat) (A : hP) (x0 : Option Nat) (x1 : Int32) (res : Int32 × hP) (h : f_X3_cut_0 N A x0 x1 = some res) : AW l mX3_cut (g_rm 0 0 0) G (g_Qf G (gi res) 0 0) A 0 0 0 [some (va_rf x0), some (.int x1)] [] := by
  unfold f_X3_cut_0 at h
  refine AW_aload_n dX3_cut_0 rfl ?_
  refine AW_getI (ci := 3) (k0 := 1) (C := RX3) (T := TX3) (N := 4) dX3_cut_1 rfl (gT_u tU_X3) (by decide) (List.mem_cons_of_mem _ tF_X3_19) h (fun v1 _ h => ?_)
  refine AW_case h (fun e4_0 h => ?_) (fun e4_0 h => ?_)
  · refine AW_look (off := 28) (tgt := 32) dX3_cut_4 (by decide) (by rw [e4_0]; decide) (by decide) ?_
    refine AW_iload_n dX3_cut_32 rfl ?_
    refine AW_i2b dX3_cut_33 ?_
    exact AW_iret dX3_cut_34 rfl ⟨Nat.zero_le _, Nat.zero_le _⟩ h
  refine AW_case h (fun e4_1 h => ?_) (fun e4_1 h => ?_)
  · refine AW_look (off := 31) (tgt := 35) dX3_cut_4 (by decide) (by rw [e4_1]; decide) (by decide) ?_
    refine AW_iload_n dX3_cut_35 rfl ?_
    refine AW_i2s dX3_cut_36 ?_
    exact AW_iret dX3_cut_37 rfl ⟨Nat.zero_le _, Nat.zero_le _⟩ h
  refine AW_look (off := 34) (tgt := 38) dX3_cut_4 (by decide) ((lv_osw e4_0 (by decide)).trans ((lv_osw e4_1 (by decide)).trans (rfl))) (by decide) ?_
  refine AW_iload_n dX3_cut_38 rfl ?_
  exact AW_iret dX3_cut_39 rfl ⟨Nat.zero_le _, Nat.zero_le _⟩ h
def f_X3_cut (N : Nat) (A : hP) (x0 : Option Nat) (x1 : Int32) : Option (Int32 × hP) := f_X3_cut_0 N A x0 x1
set_option maxRecDepth 20000 in
theorem c_X3_cut {l : Launch} (N : Nat) (A : hP) (x0 : Option Nat) (x1 : Int32) (res : Int32 × hP) (h : f_X3_cut N A x0 x1 = some res) : Ct l mX3_cut 0 0 0 A [va_rf x0, .int x1] (gi res) := Ct.of (lv := [(0, va_rf x0), (1, .int x1)]) (ls := [some (va_rf x0), some (.int x1)]) (by decide) (by simp [lv_args, g_cat_rf, cat_i, cat_l]) rfl (by simp [g_cat_rf, cat_i, cat_l]) (fun G => (t_X3_cut_0 N A x0 x1 res h))
abbrev mX3_hasPlaces : gM := gMk yX3_hasPlaces cX3_hasPlaces 3 (some .boolean)
def f_X3_hasPlaces_31 (N : Nat) (A : hP) (s0 : Int32) : Option (Int32 × hP) := if s0 = 0 ∨ s0 = 1 then some (s0, A) else none
set_option maxRecDepth 20000 in
set_option maxHeartbeats 4000000 in
theorem t_X3_hasPlaces_31 {l : Launch} {G : gS} (N : Nat) (A : hP) (s0 : Int32) (res : Int32 × hP) (h : f_X3_hasPlaces_31 N A s0 = some res) : AW l mX3_hasPlaces (g_rm 0 0 0) G (g_Qf G (gi res) 0 0) A 0 0 31 [none, none, none] [.int s0] := by
  unfold f_X3_hasPlaces_31 at h
  exact AW_zret dX3_hasPlaces_31 rfl ⟨Nat.zero_le _, Nat.zero_le _⟩ h
def f_X3_hasPlaces_30 (N : Nat) (A : hP) : Option (Int32 × hP) := f_X3_hasPlaces_31 N A (0 : Int32)
set_option maxRecDepth 20000 in
set_option maxHeartbeats 4000000 in
theorem t_X3_hasPlaces_30 {l : Launch} {G : gS} (N : Nat) (A : hP) (res : Int32 × hP) (h : f_X3_hasPlaces_30 N A  = some res) : AW l mX3_hasPlaces (g_rm 0 0 0) G (g_Qf G (gi res) 0 0) A 0 0 30 [none, none, none] [] := by
  unfold f_X3_hasPlaces_30 at h
  refine AW_iconst (v := 0) dX3_hasPlaces_30 (by decide) ?_
  exact (t_X3_hasPlaces_31 N _ _ _ h)
def f_X3_hasPlaces_0 (N : Nat) (A : hP) (x0 : Option Nat) (x1 : Int32) (x2 : Int32) : Option (Int32 × hP) := if x1 < (0) then (f_X3_hasPlaces_30 N A) else (if x2 < (0) then (f_X3_hasPlaces_30 N A) else ((oI A x0 3 2).bind fun v1 => if v1 < x1 then (f_X3_hasPlaces_30 N A) else ((oI A x0 3 2).bind fun v2 => if (v2 - x1) < x2 then (f_X3_hasPlaces_30 N A) else (f_X3_hasPlaces_31 N A (1 : Int32)))))
set_option maxRecDepth 20000 in
set_option maxHeartbeats 4000000 in
theorem t_X3_hasPlaces_0 {l : Launch} {G : gS} (N : Nat) (A : hP) (x0 : Option Nat) (x1 : Int32) (x2 : Int32) (res : Int32 × hP) (h : f_X3_hasPlaces_0 N A x0 x1 x2 = some res) : AW l mX3_hasPlaces (g_rm 0 0 0) G (g_Qf G (gi res) 0 0) A 0 0 0 [some (va_rf x0), some (.int x1), some (.int x2)] [] := by
  unfold f_X3_hasPlaces_0 at h
  refine AW_iload_n dX3_hasPlaces_0 rfl ?_
  refine AW_if_lt (tgt := 30) dX3_hasPlaces_1 (by decide) h (fun _ h => ?_) (fun _ h => ?_)
  · exact AW_fewer (fw_d (fw_d (fw_d fw_n))) (t_X3_hasPlaces_30 N _ _ h)
  · refine AW_iload_n dX3_hasPlaces_4 rfl ?_
    refine AW_if_lt (tgt := 30) dX3_hasPlaces_5 (by decide) h (fun _ h => ?_) (fun _ h => ?_)
    · exact AW_fewer (fw_d (fw_d (fw_d fw_n))) (t_X3_hasPlaces_30 N _ _ h)
    · refine AW_iload_n dX3_hasPlaces_8 rfl ?_
      refine AW_aload_n dX3_hasPlaces_9 rfl ?_
      refine AW_getI (ci := 3) (k0 := 2) (C := RX3) (T := TX3) (N := 4) dX3_hasPlaces_10 rfl (gT_u tU_X3) (by decide) (List.mem_cons_of_mem _ tF_X3_23) h (fun v1 _ h => ?_)
      refine AW_icmp_gt (tgt := 30) dX3_hasPlaces_13 (by decide) h (fun _ h => ?_) (fun _ h => ?_)
      · exact AW_fewer (fw_d (fw_d (fw_d fw_n))) (t_X3_hasPlaces_30 N _ _ h)
      · refine AW_iload_n dX3_hasPlaces_16 rfl ?_
        refine AW_aload_n dX3_hasPlaces_17 rfl ?_
        refine AW_getI (ci := 3) (k0 := 2) (C := RX3) (T := TX3) (N := 4) dX3_hasPlaces_18 rfl (gT_u tU_X3) (by decide) (List.mem_cons_of_mem _ tF_X3_23) h (fun v2 _ h => ?_)
        refine AW_iload_n dX3_hasPlaces_21 rfl ?_
        refine AW_isub dX3_hasPlaces_22 ?_
        refine AW_icmp_gt (tgt := 30) dX3_hasPlaces_23 (by decide) h (fun _ h => ?_) (fun _ h => ?_)
        · exact AW_fewer (fw_d (fw_d (fw_d fw_n))) (t_X3_hasPlaces_30 N _ _ h)
        · refine AW_iconst (v := 1) dX3_hasPlaces_26 (by decide) ?_
          refine AW_goto (tgt := 31) dX3_hasPlaces_27 (by decide) ?_
          exact AW_fewer (fw_d (fw_d (fw_d fw_n))) (t_X3_hasPlaces_31 N _ _ _ h)
def f_X3_hasPlaces (N : Nat) (A : hP) (x0 : Option Nat) (x1 : Int32) (x2 : Int32) : Option (Int32 × hP) := f_X3_hasPlaces_0 N A x0 x1 x2
set_option maxRecDepth 20000 in
theorem c_X3_hasPlaces {l : Launch} (N : Nat) (A : hP) (x0 : Option Nat) (x1 : Int32) (x2 : Int32) (res : Int32 × hP) (h : f_X3_hasPlaces N A x0 x1 x2 = some res) : Ct l mX3_hasPlaces 0 0 0 A [va_rf x0, .int x1, .int x2] (gi res) := Ct.of (lv := [(0, va_rf x0), (1, .int x1), (2, .int x2)]) (ls := [some (va_rf x0), some (.int x1), some (.int x2)]) (by decide) (by simp [lv_args, g_cat_rf, cat_i, cat_l]) rfl (by simp [g_cat_rf, cat_i, cat_l]) (fun G => (t_X3_hasPlaces_0 N A x0 x1 x2 res h))
