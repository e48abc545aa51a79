abbrev mX6_hasRoom : gM := gMk yX6_hasRoom cX6_hasRoom 2 (some .boolean)
def f_X6_hasRoom_17 (N : Nat) (A : hP) (s0 : Int32) : Option (Int32 × hP) := if s0 = 0 ∨ s0 = 1 then some (s0, A) else none
set_option maxRecDepth 20000 in
set_option maxHeartbeats 4000000 in
theorem t_X6_hasRoom_17 {l : Launch} {G : gS} (N : Nat) (A : hP) (s0 : Int32) (res : Int32 × hP) (h : f_X6_hasRoom_17 N A s0 = some res) : AW l mX6_hasRoom (g_rm 0 0 0) G (g_Qf G (gi res) 0 0) A 0 0 17 [none, none] [.int s0] := by
  unfold f_X6_hasRoom_17 at h
  exact AW_zret dX6_hasRoom_17 rfl ⟨Nat.zero_le _, Nat.zero_le _⟩ h
def f_X6_hasRoom_0 (N : Nat) (A : hP) (x0 : Option Nat) (x1 : Int32) : Option (Int32 × hP) := (oI A x0 6 1).bind fun v1 => if ((400 : Int32) - v1) < x1 then (f_X6_hasRoom_17 N A (0 : Int32)) else (f_X6_hasRoom_17 N A (1 : Int32))
set_option maxRecDepth 20000 in
set_option maxHeartbeats 4000000 in
theorem t_X6_hasRoom_0 {l : Launch} {G : gS} (N : Nat) (A : hP) (x0 : Option Nat) (x1 : Int32) (res : Int32 × hP) (h : f_X6_hasRoom_0 N A x0 x1 = some res) : AW l mX6_hasRoom (g_rm 0 0 0) G (g_Qf G (gi res) 0 0) A 0 0 0 [some (va_rf x0), some (.int x1)] [] := by
  unfold f_X6_hasRoom_0 at h
  refine AW_iload_n dX6_hasRoom_0 rfl ?_
  refine AW_sipush (v := 400) dX6_hasRoom_1 (by decide) ?_
  refine AW_aload_n dX6_hasRoom_4 rfl ?_
  refine AW_getI (ci := 6) (k0 := 1) (C := RX6) (T := TX6) (N := 8) dX6_hasRoom_5 rfl (gT_u tU_X6) (by decide) (List.mem_cons_of_mem _ tF_X6_15) h (fun v1 _ h => ?_)
  refine AW_isub dX6_hasRoom_8 ?_
  refine AW_icmp_gt (tgt := 16) dX6_hasRoom_9 (by decide) h (fun _ h => ?_) (fun _ h => ?_)
  · refine AW_iconst (v := 0) dX6_hasRoom_16 (by decide) ?_
    exact AW_fewer (fw_d (fw_d fw_n)) (t_X6_hasRoom_17 N _ _ _ h)
  · refine AW_iconst (v := 1) dX6_hasRoom_12 (by decide) ?_
    refine AW_goto (tgt := 17) dX6_hasRoom_13 (by decide) ?_
    exact AW_fewer (fw_d (fw_d fw_n)) (t_X6_hasRoom_17 N _ _ _ h)
def f_X6_hasRoom (N : Nat) (A : hP) (x0 : Option Nat) (x1 : Int32) : Option (Int32 × hP) := f_X6_hasRoom_0 N A x0 x1
set_option maxRecDepth 20000 in
theorem c_X6_hasRoom {l : Launch} (N : Nat) (A : hP) (x0 : Option Nat) (x1 : Int32) (res : Int32 × hP) (h : f_X6_hasRoom N A x0 x1 = some res) : Ct l mX6_hasRoom 0 0 0 A [va_rf x0, .int x1] (gi res) := Ct.of (lv := [(0, va_rf x0), (1, .int x1)]) (ls := [some (va_rf x0), some (.int x1)]) (by decide) (by simp [lv_args, g_cat_rf, cat_i, cat_l]) rfl (by simp [g_cat_rf, cat_i, cat_l]) (fun G => (t_X6_hasRoom_0 N A x0 x1 res h))
abbrev mX6_append : gM := gMk yX6_append cX6_append 5 (some .int)
def f_X6_append_54 (N : Nat) (A : hP) (x0 : Option Nat) : Option (Int32 × hP) := (oI A x0 6 1).bind fun v1 => some (v1, A)
set_option maxRecDepth 20000 in
set_option maxHeartbeats 4000000 in
theorem t_X6_append_54 {l : Launch} {G : gS} (N : Nat) (A : hP) (x0 : Option Nat) (res : Int32 × hP) (h : f_X6_append_54 N A x0 = some res) : AW l mX6_append (g_rm 0 0 0) G (g_Qf G (gi res) 0 0) A 0 0 54 [some (va_rf x0), none, none, none, none] [] := by
  unfold f_X6_append_54 at h
  refine AW_aload_n dX6_append_54 rfl ?_
  refine AW_getI (ci := 6) (k0 := 1) (C := RX6) (T := TX6) (N := 8) dX6_append_55 rfl (gT_u tU_X6) (by decide) (List.mem_cons_of_mem _ tF_X6_15) h (fun v1 _ h => ?_)
  exact AW_iret dX6_append_58 rfl ⟨Nat.zero_le _, Nat.zero_le _⟩ h
def f_X6_append_5 (N : Nat) : Nat → hP → Option Nat → Int64 → Int32 → Option (Int32 × hP)
  | 0, _, _, _, _ => none
  | n + 1, A, x0, x1, x4 => if x4 < (0) then (f_X6_append_54 N A x0) else ((oI A x0 6 1).bind fun v2 => if (400 : Int32) ≤ v2 then (f_X6_append_54 N A x0) else ((oR A x0 6 0).bind fun v3 => (oI A x0 6 1).bind fun v4 => (oS A v3 1 v4 (((x1 >>> (((8 : Int32) * x4).toInt64 &&& 63)).toInt32).toInt8.toInt32).toInt8.toInt32).bind fun A5 => (oI A5 x0 6 1).bind fun v6 => (oP A5 x0 6 1 (.int (v6 + (1 : Int32)))).bind fun A7 => f_X6_append_5 N n A7 x0 x1 (x4 + (-1 : Int32))))
set_option maxRecDepth 20000 in
set_option maxHeartbeats 4000000 in
theorem t_X6_append_5 {l : Launch} {G : gS} (N : Nat) : ∀ (n : Nat) (A : hP) (x0 : Option Nat) (x1 : Int64) (x4 : Int32) (res : Int32 × hP), f_X6_append_5 N n A x0 x1 x4 = some res → AW l mX6_append (g_rm 0 0 0) G (g_Qf G (gi res) 0 0) A 0 0 5 [some (va_rf x0), some (.long x1), none, none, some (.int x4)] [] := by
  intro n
  induction n with
  | zero => intro A x0 x1 x4 res h; cases h
  | succ n ih =>
    intro A x0 x1 x4 res h
    rw [f_X6_append_5] at h
    refine AW_iload dX6_append_5 rfl ?_
    refine AW_if_lt (tgt := 54) dX6_append_7 (by decide) h (fun _ h => ?_) (fun _ h => ?_)
    · exact AW_fewer (fw_k (fw_d (fw_k (fw_k (fw_d fw_n))))) (t_X6_append_54 N _ _ _ h)
    · refine AW_aload_n dX6_append_10 rfl ?_
      refine AW_getI (ci := 6) (k0 := 1) (C := RX6) (T := TX6) (N := 8) dX6_append_11 rfl (gT_u tU_X6) (by decide) (List.mem_cons_of_mem _ tF_X6_15) h (fun v2 _ h => ?_)
      refine AW_sipush (v := 400) dX6_append_14 (by decide) ?_
      refine AW_icmp_ge (tgt := 54) dX6_append_17 (by decide) h (fun _ h => ?_) (fun _ h => ?_)
      · exact AW_fewer (fw_k (fw_d (fw_k (fw_k (fw_d fw_n))))) (t_X6_append_54 N _ _ _ h)
      · refine AW_aload_n dX6_append_20 rfl ?_
        refine AW_getR (ci := 6) (k0 := 0) (C := RX6) (T := TX6) (N := 8) dX6_append_21 rfl (gT_u tU_X6) (by decide) (List.mem_cons_of_mem _ tF_X6_11) h (fun v3 _ h => ?_)
        refine AW_aload_n dX6_append_24 rfl ?_
        refine AW_getI (ci := 6) (k0 := 1) (C := RX6) (T := TX6) (N := 8) dX6_append_25 rfl (gT_u tU_X6) (by decide) (List.mem_cons_of_mem _ tF_X6_15) h (fun v4 _ h => ?_)
        refine AW_lload_n dX6_append_28 rfl ?_
        refine AW_bipush (v := 8) dX6_append_29 (by decide) ?_
        refine AW_iload dX6_append_31 rfl ?_
        refine AW_imul dX6_append_33 ?_
        refine AW_lshr dX6_append_34 ?_
        refine AW_l2i dX6_append_35 ?_
        refine AW_i2b dX6_append_36 ?_
        refine AW_bast dX6_append_37 h (fun A5 _ h => ?_)
        refine AW_aload_n dX6_append_38 rfl ?_
        refine AW_dup dX6_append_39 (g_cat_rf _) ?_
        refine AW_getI (ci := 6) (k0 := 1) (C := RX6) (T := TX6) (N := 8) dX6_append_40 rfl (gT_u tU_X6) (by decide) (List.mem_cons_of_mem _ tF_X6_15) h (fun v6 _ h => ?_)
        refine AW_iconst (v := 1) dX6_append_43 (by decide) ?_
        refine AW_iadd dX6_append_44 ?_
        refine AW_put (ci := 6) (k0 := 1) (C := RX6) (T := TX6) (N := 8) (ty0 := tyX6) dX6_append_45 rfl (gT_u tU_X6) tyX6_ok nmX6 (by decide) (List.mem_cons_of_mem _ tF_X6_15) (Or.inl rfl) rfl rfl h (fun A7 _ h => ?_)
        refine AW_iinc (v := -1) (ls' := [some (va_rf x0), some (.long x1), none, none, some (.int (x4 + (-1 : Int32)))]) dX6_append_48 rfl (c1_n rfl) (by decide) (by decide) rfl ?_
        refine AW_goto (tgt := 5) dX6_append_51 (by decide) ?_
        exact (ih _ _ _ _ _ h)
def f_X6_append_0 (N : Nat) (A : hP) (x0 : Option Nat) (x1 : Int64) (x3 : Int32) : Option (Int32 × hP) := f_X6_append_5 N N A x0 x1 (x3 - (1 : Int32))
set_option maxRecDepth 20000 in
set_option maxHeartbeats 4000000 in
theorem t_X6_append_0 {l : Launch} {G : gS} (N : Nat) (A : hP) (x0 : Option Nat) (x1 : Int64) (x3 : Int32) (res : Int32 × hP) (h : f_X6_append_0 N A x0 x1 x3 = some res) : AW l mX6_append (g_rm 0 0 0) G (g_Qf G (gi res) 0 0) A 0 0 0 [some (va_rf x0), some (.long x1), none, some (.int x3), none] [] := by
  unfold f_X6_append_0 at h
  refine AW_iload_n dX6_append_0 rfl ?_
  refine AW_iconst (v := 1) dX6_append_1 (by decide) ?_
  refine AW_isub dX6_append_2 ?_
  refine AW_istore (ls' := [some (va_rf x0), some (.long x1), none, some (.int x3), some (.int (x3 - (1 : Int32)))]) dX6_append_3 (c1_i rfl) (by decide) rfl ?_
  exact AW_fewer (fw_k (fw_k (fw_k (fw_d (fw_k fw_n))))) (t_X6_append_5 N N _ _ _ _ _ h)
def f_X6_append (N : Nat) (A : hP) (x0 : Option Nat) (x1 : Int64) (x3 : Int32) : Option (Int32 × hP) := f_X6_append_0 N A x0 x1 x3
set_option maxRecDepth 20000 in
theorem c_X6_append {l : Launch} (N : Nat) (A : hP) (x0 : Option Nat) (x1 : Int64) (x3 : Int32) (res : Int32 × hP) (h : f_X6_append N A x0 x1 x3 = some res) : Ct l mX6_append 0 0 0 A [va_rf x0, .long x1, .int x3] (gi res) := Ct.of (lv := [(0, va_rf x0), (1, .long x1), (3, .int x3)]) (ls := [some (va_rf x0), some (.long x1), none, some (.int x3), none]) (by decide) (by simp [lv_args, g_cat_rf, cat_i, cat_l]) rfl (by simp [g_cat_rf, cat_i, cat_l]) (fun G => (t_X6_append_0 N A x0 x1 x3 res h))
abbrev mX6_isBetween : gM := gMk yX6_isBetween cX6_isBetween 1 (some .boolean)
def f_X6_isBetween_17 (N : Nat) (A : hP) (s0 : Int32) : Option (Int32 × hP) := if s0 = 0 ∨ s0 = 1 then some (s0, A) else none
set_option maxRecDepth 20000 in
set_option maxHeartbeats 4000000 in
theorem t_X6_isBetween_17 {l : Launch} {G : gS} (N : Nat) (A : hP) (s0 : Int32) (res : Int32 × hP) (h : f_X6_isBetween_17 N A s0 = some res) : AW l mX6_isBetween (g_rm 0 0 0) G (g_Qf G (gi res) 0 0) A 0 0 17 [none] [.int s0] := by
  unfold f_X6_isBetween_17 at h
  exact AW_zret dX6_isBetween_17 rfl ⟨Nat.zero_le _, Nat.zero_le _⟩ h
def f_X6_isBetween_12 (N : Nat) (A : hP) : Option (Int32 × hP) := f_X6_isBetween_17 N A (1 : Int32)
set_option maxRecDepth 20000 in
set_option maxHeartbeats 4000000 in
theorem t_X6_isBetween_12 {l : Launch} {G : gS} (N : Nat) (A : hP) (res : Int32 × hP) (h : f_X6_isBetween_12 N A  = some res) : AW l mX6_isBetween (g_rm 0 0 0) G (g_Qf G (gi res) 0 0) A 0 0 12 [none] [] := by
  unfold f_X6_isBetween_12 at h
  refine AW_iconst (v := 1) dX6_isBetween_12 (by decide) ?_
  refine AW_goto (tgt := 17) dX6_isBetween_13 (by decide) ?_
  exact (t_X6_isBetween_17 N _ _ _ h)
def f_X6_isBetween_0 (N : Nat) (A : hP) (x0 : Int32) : Option (Int32 × hP) := if x0 = (32 : Int32) then (f_X6_isBetween_12 N A) else (if x0 = (10 : Int32) then (f_X6_isBetween_12 N A) else (f_X6_isBetween_17 N A (0 : Int32)))
set_option maxRecDepth 20000 in
set_option maxHeartbeats 4000000 in
theorem t_X6_isBetween_0 {l : Launch} {G : gS} (N : Nat) (A : hP) (x0 : Int32) (res : Int32 × hP) (h : f_X6_isBetween_0 N A x0 = some res) : AW l mX6_isBetween (g_rm 0 0 0) G (g_Qf G (gi res) 0 0) A 0 0 0 [some (.int x0)] [] := by
  unfold f_X6_isBetween_0 at h
  refine AW_iload_n dX6_isBetween_0 rfl ?_
  refine AW_bipush (v := 32) dX6_isBetween_1 (by decide) ?_
  refine AW_icmp_eq (tgt := 12) dX6_isBetween_3 (by decide) h (fun _ h => ?_) (fun _ h => ?_)
  · exact AW_fewer (fw_d fw_n) (t_X6_isBetween_12 N _ _ h)
  · refine AW_iload_n dX6_isBetween_6 rfl ?_
    refine AW_bipush (v := 10) dX6_isBetween_7 (by decide) ?_
    refine AW_icmp_ne (tgt := 16) dX6_isBetween_9 (by decide) h (fun _ h => ?_) (fun _ h => ?_)
    · refine AW_iconst (v := 0) dX6_isBetween_16 (by decide) ?_
      exact AW_fewer (fw_d fw_n) (t_X6_isBetween_17 N _ _ _ h)
    · exact AW_fewer (fw_d fw_n) (t_X6_isBetween_12 N _ _ h)
def f_X6_isBetween (N : Nat) (A : hP) (x0 : Int32) : Option (Int32 × hP) := f_X6_isBetween_0 N A x0
set_option maxRecDepth 20000 in
theorem c_X6_isBetween {l : Launch} (N : Nat) (A : hP) (x0 : Int32) (res : Int32 × hP) (h : f_X6_isBetween N A x0 = some res) : Ct l mX6_isBetween 0 0 0 A [.int x0] (gi res) := Ct.of (lv := [(0, .int x0)]) (ls := [some (.int x0)]) (by decide) (by simp [lv_args, g_cat_rf, cat_i, cat_l]) rfl (by simp [g_cat_rf, cat_i, cat_l]) (fun G => (t_X6_isBetween_0 N A x0 res h))
abbrev mX6_isLetter : gM := gMk yX6_isLetter cX6_isLetter 1 (some .boolean)
def f_X6_isLetter_17 (N : Nat) (A : hP) (s0 : Int32) : Option (Int32 × hP) := if s0 = 0 ∨ s0 = 1 then some (s0, A) else none
set_option maxRecDepth 20000 in
set_option maxHeartbeats 4000000 in
theorem t_X6_isLetter_17 {l : Launch} {G : gS} (N : Nat) (A : hP) (s0 : Int32) (res : Int32 × hP) (h : f_X6_isLetter_17 N A s0 = some res) : AW l mX6_isLetter (g_rm 0 0 0) G (g_Qf G (gi res) 0 0) A 0 0 17 [none] [.int s0] := by
  unfold f_X6_isLetter_17 at h
  exact AW_zret dX6_isLetter_17 rfl ⟨Nat.zero_le _, Nat.zero_le _⟩ h
def f_X6_isLetter_16 (N : Nat) (A : hP) : Option (Int32 × hP) := f_X6_isLetter_17 N A (0 : Int32)
set_option maxRecDepth 20000 in
set_option maxHeartbeats 4000000 in
theorem t_X6_isLetter_16 {l : Launch} {G : gS} (N : Nat) (A : hP) (res : Int32 × hP) (h : f_X6_isLetter_16 N A  = some res) : AW l mX6_isLetter (g_rm 0 0 0) G (g_Qf G (gi res) 0 0) A 0 0 16 [none] [] := by
  unfold f_X6_isLetter_16 at h
  refine AW_iconst (v := 0) dX6_isLetter_16 (by decide) ?_
  exact (t_X6_isLetter_17 N _ _ _ h)
def f_X6_isLetter_0 (N : Nat) (A : hP) (x0 : Int32) : Option (Int32 × hP) := if x0 < (97 : Int32) then (f_X6_isLetter_16 N A) else (if (122 : Int32) < x0 then (f_X6_isLetter_16 N A) else (f_X6_isLetter_17 N A (1 : Int32)))
set_option maxRecDepth 20000 in
set_option maxHeartbeats 4000000 in
theorem t_X6_isLetter_0 {l : Launch} {G : gS} (N : Nat) (A : hP) (x0 : Int32) (res : Int32 × hP) (h : f_X6_isLetter_0 N A x0 = some res) : AW l mX6_isLetter (g_rm 0 0 0) G (g_Qf G (gi res) 0 0) A 0 0 0 [some (.int x0)] [] := by
  unfold f_X6_isLetter_0 at h
  refine AW_iload_n dX6_isLetter_0 rfl ?_
  refine AW_bipush (v := 97) dX6_isLetter_1 (by decide) ?_
  refine AW_icmp_lt (tgt := 16) dX6_isLetter_3 (by decide) h (fun _ h => ?_) (fun _ h => ?_)
  · exact AW_fewer (fw_d fw_n) (t_X6_isLetter_16 N _ _ h)
  · refine AW_iload_n dX6_isLetter_6 rfl ?_
    refine AW_bipush (v := 122) dX6_isLetter_7 (by decide) ?_
    refine AW_icmp_gt (tgt := 16) dX6_isLetter_9 (by decide) h (fun _ h => ?_) (fun _ h => ?_)
    · exact AW_fewer (fw_d fw_n) (t_X6_isLetter_16 N _ _ h)
    · refine AW_iconst (v := 1) dX6_isLetter_12 (by decide) ?_
      refine AW_goto (tgt := 17) dX6_isLetter_13 (by decide) ?_
      exact AW_fewer (fw_d fw_n) (t_X6_isLetter_17 N _ _ _ h)
def f_X6_isLetter (N : Nat) (A : hP) (x0 : Int32) : Option (Int32 × hP) := f_X6_isLetter_0 N A x0
set_option maxRecDepth 20000 in
theorem c_X6_isLetter {l : Launch} (N : Nat) (A : hP) (x0 : Int32) (res : Int32 × hP) (h : f_X6_isLetter N A x0 = some res) : Ct l mX6_isLetter 0 0 0 A [.int x0] (gi res) := Ct.of (lv := [(0, .int x0)]) (ls := [some (.int x0)]) (by decide) (by simp [lv_args, g_cat_rf, cat_i, cat_l]) rfl (by simp [g_cat_rf, cat_i, cat_l]) (fun G => (t_X6_isLetter_0 N A x0 res h))
abbrev mX6_isFigure : gM := gMk yX6_isFigure cX6_isFigure 1 (some .boolean)
def f_X6_isFigure_17 (N : Nat) (A : hP) (s0 : Int32) : Option (Int32 × hP) := if s0 = 0 ∨ s0 = 1 then some (s0, A) else none
set_option maxRecDepth 20000 in
set_option maxHeartbeats 4000000 in
theorem t_X6_isFigure_17 {l : Launch} {G : gS} (N : Nat) (A : hP) (s0 : Int32) (res : Int32 × hP) (h : f_X6_isFigure_17 N A s0 = some res) : AW l mX6_isFigure (g_rm 0 0 0) G (g_Qf G (gi res) 0 0) A 0 0 17 [none] [.int s0] := by
  unfold f_X6_isFigure_17 at h
  exact AW_zret dX6_isFigure_17 rfl ⟨Nat.zero_le _, Nat.zero_le _⟩ h
def f_X6_isFigure_16 (N : Nat) (A : hP) : Option (Int32 × hP) := f_X6_isFigure_17 N A (0 : Int32)
set_option maxRecDepth 20000 in
set_option maxHeartbeats 4000000 in
theorem t_X6_isFigure_16 {l : Launch} {G : gS} (N : Nat) (A : hP) (res : Int32 × hP) (h : f_X6_isFigure_16 N A  = some res) : AW l mX6_isFigure (g_rm 0 0 0) G (g_Qf G (gi res) 0 0) A 0 0 16 [none] [] := by
  unfold f_X6_isFigure_16 at h
  refine AW_iconst (v := 0) dX6_isFigure_16 (by decide) ?_
  exact (t_X6_isFigure_17 N _ _ _ h)
def f_X6_isFigure_0 (N : Nat) (A : hP) (x0 : Int32) : Option (Int32 × hP) := if x0 < (48 : Int32) then (f_X6_isFigure_16 N A) else (if (57 : Int32) < x0 then (f_X6_isFigure_16 N A) else (f_X6_isFigure_17 N A (1 : Int32)))
set_option maxRecDepth 20000 in
set_option maxHeartbeats 4000000 in
theorem t_X6_isFigure_0 {l : Launch} {G : gS} (N : Nat) (A : hP) (x0 : Int32) (res : Int32 × hP) (h : f_X6_isFigure_0 N A x0 = some res) : AW l mX6_isFigure (g_rm 0 0 0) G (g_Qf G (gi res) 0 0) A 0 0 0 [some (.int x0)] [] := by
  unfold f_X6_isFigure_0 at h
  refine AW_iload_n dX6_isFigure_0 rfl ?_
  refine AW_bipush (v := 48) dX6_isFigure_1 (by decide) ?_
  refine AW_icmp_lt (tgt := 16) dX6_isFigure_3 (by decide) h (fun _ h => ?_) (fun _ h => ?_)
  · exact AW_fewer (fw_d fw_n) (t_X6_isFigure_16 N _ _ h)
  · refine AW_iload_n dX6_isFigure_6 rfl ?_
    refine AW_bipush (v := 57) dX6_isFigure_7 (by decide) ?_
    refine AW_icmp_gt (tgt := 16) dX6_isFigure_9 (by decide) h (fun _ h => ?_) (fun _ h => ?_)
    · exact AW_fewer (fw_d fw_n) (t_X6_isFigure_16 N _ _ h)
    · refine AW_iconst (v := 1) dX6_isFigure_12 (by decide) ?_
      refine AW_goto (tgt := 17) dX6_isFigure_13 (by decide) ?_
      exact AW_fewer (fw_d fw_n) (t_X6_isFigure_17 N _ _ _ h)
def f_X6_isFigure (N : Nat) (A : hP) (x0 : Int32) : Option (Int32 × hP) := f_X6_isFigure_0 N A x0
set_option maxRecDepth 20000 in
theorem c_X6_isFigure {l : Launch} (N : Nat) (A : hP) (x0 : Int32) (res : Int32 × hP) (h : f_X6_isFigure N A x0 = some res) : Ct l mX6_isFigure 0 0 0 A [.int x0] (gi res) := Ct.of (lv := [(0, .int x0)]) (ls := [some (.int x0)]) (by decide) (by simp [lv_args, g_cat_rf, cat_i, cat_l]) rfl (by simp [g_cat_rf, cat_i, cat_l]) (fun G => (t_X6_isFigure_0 N A x0 res h))
abbrev mX6_advance : gM := gMk yX6_advance cX6_advance 1 none
def f_X6_advance_240 (N : Nat) (A : hP) : Option (Unit × hP) := some ((), A)
set_option maxRecDepth 20000 in
set_option maxHeartbeats 4000000 in
theorem t_X6_advance_240 {l : Launch} {G : gS} (N : Nat) (A : hP) (res : Unit × hP) (h : f_X6_advance_240 N A  = some res) : AW l mX6_advance (g_rm 1 0 0) G (g_Qf G (gu res) 0 0) A 0 0 240 [none] [] := by
  unfold f_X6_advance_240 at h
  exact AW_vret dX6_advance_240 rfl ⟨Nat.zero_le _, Nat.zero_le _⟩ h
def f_X6_advance_120 (N : Nat) (A : hP) (x0 : Option Nat) : Option (Unit × hP) := (oP A x0 6 6 (.int (1 : Int32))).bind fun A1 => f_X6_advance_240 N A1
set_option maxRecDepth 20000 in
set_option maxHeartbeats 4000000 in
theorem t_X6_advance_120 {l : Launch} {G : gS} (N : Nat) (A : hP) (x0 : Option Nat) (res : Unit × hP) (h : f_X6_advance_120 N A x0 = some res) : AW l mX6_advance (g_rm 1 0 0) G (g_Qf G (gu res) 0 0) A 0 0 120 [some (va_rf x0)] [] := by
  unfold f_X6_advance_120 at h
  refine AW_aload_n dX6_advance_120 rfl ?_
  refine AW_iconst (v := 1) dX6_advance_121 (by decide) ?_
  refine AW_put (ci := 6) (k0 := 6) (C := RX6) (T := TX6) (N := 8) (ty0 := tyX6) dX6_advance_122 rfl (gT_u tU_X6) tyX6_ok nmX6 (by decide) (List.mem_cons_of_mem _ tF_X6_102) (Or.inl rfl) rfl rfl h (fun A1 _ h => ?_)
  refine AW_goto (tgt := 240) dX6_advance_125 (by decide) ?_
  exact AW_fewer (fw_d fw_n) (t_X6_advance_240 N _ _ h)
def f_X6_advance_81 (N : Nat) : Nat → hP → Option Nat → Option (Unit × hP)
  | 0, _, _ => none
  | n + 1, A, x0 => (oI A x0 6 4).bind fun v2 => (oI A x0 6 1).bind fun v3 => if v3 ≤ v2 then (f_X6_advance_120 N A x0) else ((oR A x0 6 0).bind fun v4 => (oI A x0 6 4).bind fun v5 => (oA A v4 1 v5).bind fun v6 => (f_X6_isLetter N A v6).bind fun q7 => if q7.1 = (0) then (f_X6_advance_120 N q7.2 x0) else ((oI q7.2 x0 6 4).bind fun v8 => (oP q7.2 x0 6 4 (.int (v8 + (1 : Int32)))).bind fun A9 => f_X6_advance_81 N n A9 x0))
set_option maxRecDepth 20000 in
set_option maxHeartbeats 4000000 in
theorem t_X6_advance_81 {l : Launch} {G : gS} (N : Nat) : ∀ (n : Nat) (A : hP) (x0 : Option Nat) (res : Unit × hP), f_X6_advance_81 N n A x0 = some res → AW l mX6_advance (g_rm 1 0 0) G (g_Qf G (gu res) 0 0) A 0 0 81 [some (va_rf x0)] [] := by
  intro n
  induction n with
  | zero => intro A x0 res h; cases h
  | succ n ih =>
    intro A x0 res h
    rw [f_X6_advance_81] at h
    refine AW_aload_n dX6_advance_81 rfl ?_
    refine AW_getI (ci := 6) (k0 := 4) (C := RX6) (T := TX6) (N := 8) dX6_advance_82 rfl (gT_u tU_X6) (by decide) (List.mem_cons_of_mem _ tF_X6_24) h (fun v2 _ h => ?_)
    refine AW_aload_n dX6_advance_85 rfl ?_
    refine AW_getI (ci := 6) (k0 := 1) (C := RX6) (T := TX6) (N := 8) dX6_advance_86 rfl (gT_u tU_X6) (by decide) (List.mem_cons_of_mem _ tF_X6_15) h (fun v3 _ h => ?_)
    refine AW_icmp_ge (tgt := 120) dX6_advance_89 (by decide) h (fun _ h => ?_) (fun _ h => ?_)
    · exact (t_X6_advance_120 N _ _ _ h)
    · refine AW_aload_n dX6_advance_92 rfl ?_
      refine AW_getR (ci := 6) (k0 := 0) (C := RX6) (T := TX6) (N := 8) dX6_advance_93 rfl (gT_u tU_X6) (by decide) (List.mem_cons_of_mem _ tF_X6_11) h (fun v4 _ h => ?_)
      refine AW_aload_n dX6_advance_96 rfl ?_
      refine AW_getI (ci := 6) (k0 := 4) (C := RX6) (T := TX6) (N := 8) dX6_advance_97 rfl (gT_u tU_X6) (by decide) (List.mem_cons_of_mem _ tF_X6_24) h (fun v5 _ h => ?_)
      refine AW_bald dX6_advance_100 h (fun v6 _ h => ?_)
      refine AW_callSi (y := yX6_isLetter) (cc := cX6_isLetter) (n := 1) (d := 0) (mc := 0) (ms := 0) (np := 1) (ret := (some .boolean)) (As := [.int v6]) (st := []) dX6_advance_101 gT_s tM_X6_148 tS_X6_isLetter tIni_X6 tY_X6_isLetter (by decide +kernel) ⟨by decide, by decide⟩ ⟨by decide, by decide⟩ (Nat.le_of_ble_eq_true rfl) rfl h (fun q hq => c_X6_isLetter N _ _ q hq) (fun q7 _ h => ?_)
      refine AW_if_eq (tgt := 120) dX6_advance_104 (by decide) h (fun _ h => ?_) (fun _ h => ?_)
      · exact (t_X6_advance_120 N _ _ _ h)
      · refine AW_aload_n dX6_advance_107 rfl ?_
        refine AW_dup dX6_advance_108 (g_cat_rf _) ?_
        refine AW_getI (ci := 6) (k0 := 4) (C := RX6) (T := TX6) (N := 8) dX6_advance_109 rfl (gT_u tU_X6) (by decide) (List.mem_cons_of_mem _ tF_X6_24) h (fun v8 _ h => ?_)
        refine AW_iconst (v := 1) dX6_advance_112 (by decide) ?_
        refine AW_iadd dX6_advance_113 ?_
        refine AW_put (ci := 6) (k0 := 4) (C := RX6) (T := TX6) (N := 8) (ty0 := tyX6) dX6_advance_114 rfl (gT_u tU_X6) tyX6_ok nmX6 (by decide) (List.mem_cons_of_mem _ tF_X6_24) (Or.inl rfl) rfl rfl h (fun A9 _ h => ?_)
        refine AW_goto (tgt := 81) dX6_advance_117 (by decide) ?_
        exact (ih _ _ _ h)
def f_X6_advance_201 (N : Nat) (A : hP) (s0 : Option Nat) (s1 : Int32) : Option (Unit × hP) := (oP A s0 6 6 (.int s1)).bind fun A10 => f_X6_advance_240 N A10
set_option maxRecDepth 20000 in
set_option maxHeartbeats 4000000 in
theorem t_X6_advance_201 {l : Launch} {G : gS} (N : Nat) (A : hP) (s0 : Option Nat) (s1 : Int32) (res : Unit × hP) (h : f_X6_advance_201 N A s0 s1 = some res) : AW l mX6_advance (g_rm 1 0 0) G (g_Qf G (gu res) 0 0) A 0 0 201 [none] [.int s1, va_rf s0] := by
  unfold f_X6_advance_201 at h
  refine AW_put (ci := 6) (k0 := 6) (C := RX6) (T := TX6) (N := 8) (ty0 := tyX6) dX6_advance_201 rfl (gT_u tU_X6) tyX6_ok nmX6 (by decide) (List.mem_cons_of_mem _ tF_X6_102) (Or.inl rfl) rfl rfl h (fun A10 _ h => ?_)
  refine AW_goto (tgt := 240) dX6_advance_204 (by decide) ?_
  exact (t_X6_advance_240 N _ _ h)
def f_X6_advance_182 (N : Nat) (A : hP) (x0 : Option Nat) : Option (Unit × hP) := (oI A x0 6 4).bind fun v11 => (oI A x0 6 5).bind fun v12 => if (3 : Int32) < (v11 - v12) then (f_X6_advance_201 N A x0 (4 : Int32)) else (f_X6_advance_201 N A x0 (2 : Int32))
set_option maxRecDepth 20000 in
set_option maxHeartbeats 4000000 in
theorem t_X6_advance_182 {l : Launch} {G : gS} (N : Nat) (A : hP) (x0 : Option Nat) (res : Unit × hP) (h : f_X6_advance_182 N A x0 = some res) : AW l mX6_advance (g_rm 1 0 0) G (g_Qf G (gu res) 0 0) A 0 0 182 [some (va_rf x0)] [] := by
  unfold f_X6_advance_182 at h
  refine AW_aload_n dX6_advance_182 rfl ?_
  refine AW_aload_n dX6_advance_183 rfl ?_
  refine AW_getI (ci := 6) (k0 := 4) (C := RX6) (T := TX6) (N := 8) dX6_advance_184 rfl (gT_u tU_X6) (by decide) (List.mem_cons_of_mem _ tF_X6_24) h (fun v11 _ h => ?_)
  refine AW_aload_n dX6_advance_187 rfl ?_
  refine AW_getI (ci := 6) (k0 := 5) (C := RX6) (T := TX6) (N := 8) dX6_advance_188 rfl (gT_u tU_X6) (by decide) (List.mem_cons_of_mem _ tF_X6_131) h (fun v12 _ h => ?_)
  refine AW_isub dX6_advance_191 ?_
  refine AW_iconst (v := 3) dX6_advance_192 (by decide) ?_
  refine AW_icmp_gt (tgt := 200) dX6_advance_193 (by decide) h (fun _ h => ?_) (fun _ h => ?_)
  · refine AW_iconst (v := 4) dX6_advance_200 (by decide) ?_
    exact AW_fewer (fw_d fw_n) (t_X6_advance_201 N _ _ _ _ h)
  · refine AW_iconst (v := 2) dX6_advance_196 (by decide) ?_
    refine AW_goto (tgt := 201) dX6_advance_197 (by decide) ?_
    exact AW_fewer (fw_d fw_n) (t_X6_advance_201 N _ _ _ _ h)
def f_X6_advance_143 (N : Nat) : Nat → hP → Option Nat → Option (Unit × hP)
  | 0, _, _ => none
  | n + 1, A, x0 => (oI A x0 6 4).bind fun v13 => (oI A x0 6 1).bind fun v14 => if v14 ≤ v13 then (f_X6_advance_182 N A x0) else ((oR A x0 6 0).bind fun v15 => (oI A x0 6 4).bind fun v16 => (oA A v15 1 v16).bind fun v17 => (f_X6_isFigure N A v17).bind fun q18 => if q18.1 = (0) then (f_X6_advance_182 N q18.2 x0) else ((oI q18.2 x0 6 4).bind fun v19 => (oP q18.2 x0 6 4 (.int (v19 + (1 : Int32)))).bind fun A20 => f_X6_advance_143 N n A20 x0))
set_option maxRecDepth 20000 in
set_option maxHeartbeats 4000000 in
theorem t_X6_advance_143 {l : Launch} {G : gS} (N : Nat) : ∀ (n : Nat) (A : hP) (x0 : Option Nat) (res : Unit × hP), f_X6_advance_143 N n A x0 = some res → AW l mX6_advance (g_rm 1 0 0) G (g_Qf G (gu res) 0 0) A 0 0 143 [some (va_rf x0)] [] := by
  intro n
  induction n with
  | zero => intro A x0 res h; cases h
  | succ n ih =>
    intro A x0 res h
    rw [f_X6_advance_143] at h
    refine AW_aload_n dX6_advance_143 rfl ?_
    refine AW_getI (ci := 6) (k0 := 4) (C := RX6) (T := TX6) (N := 8) dX6_advance_144 rfl (gT_u tU_X6) (by decide) (List.mem_cons_of_mem _ tF_X6_24) h (fun v13 _ h => ?_)
    refine AW_aload_n dX6_advance_147 rfl ?_
    refine AW_getI (ci := 6) (k0 := 1) (C := RX6) (T := TX6) (N := 8) dX6_advance_148 rfl (gT_u tU_X6) (by decide) (List.mem_cons_of_mem _ tF_X6_15) h (fun v14 _ h => ?_)
    refine AW_icmp_ge (tgt := 182) dX6_advance_151 (by decide) h (fun _ h => ?_) (fun _ h => ?_)
    · exact (t_X6_advance_182 N _ _ _ h)
    · refine AW_aload_n dX6_advance_154 rfl ?_
      refine AW_getR (ci := 6) (k0 := 0) (C := RX6) (T := TX6) (N := 8) dX6_advance_155 rfl (gT_u tU_X6) (by decide) (List.mem_cons_of_mem _ tF_X6_11) h (fun v15 _ h => ?_)
      refine AW_aload_n dX6_advance_158 rfl ?_
      refine AW_getI (ci := 6) (k0 := 4) (C := RX6) (T := TX6) (N := 8) dX6_advance_159 rfl (gT_u tU_X6) (by decide) (List.mem_cons_of_mem _ tF_X6_24) h (fun v16 _ h => ?_)
      refine AW_bald dX6_advance_162 h (fun v17 _ h => ?_)
      refine AW_callSi (y := yX6_isFigure) (cc := cX6_isFigure) (n := 1) (d := 0) (mc := 0) (ms := 0) (np := 1) (ret := (some .boolean)) (As := [.int v17]) (st := []) dX6_advance_163 gT_s tM_X6_151 tS_X6_isFigure tIni_X6 tY_X6_isFigure (by decide +kernel) ⟨by decide, by decide⟩ ⟨by decide, by decide⟩ (Nat.le_of_ble_eq_true rfl) rfl h (fun q hq => c_X6_isFigure N _ _ q hq) (fun q18 _ h => ?_)
      refine AW_if_eq (tgt := 182) dX6_advance_166 (by decide) h (fun _ h => ?_) (fun _ h => ?_)
      · exact (t_X6_advance_182 N _ _ _ h)
      · refine AW_aload_n dX6_advance_169 rfl ?_
        refine AW_dup dX6_advance_170 (g_cat_rf _) ?_
        refine AW_getI (ci := 6) (k0 := 4) (C := RX6) (T := TX6) (N := 8) dX6_advance_171 rfl (gT_u tU_X6) (by decide) (List.mem_cons_of_mem _ tF_X6_24) h (fun v19 _ h => ?_)
        refine AW_iconst (v := 1) dX6_advance_174 (by decide) ?_
        refine AW_iadd dX6_advance_175 ?_
        refine AW_put (ci := 6) (k0 := 4) (C := RX6) (T := TX6) (N := 8) (ty0 := tyX6) dX6_advance_176 rfl (gT_u tU_X6) tyX6_ok nmX6 (by decide) (List.mem_cons_of_mem _ tF_X6_24) (Or.inl rfl) rfl rfl h (fun A20 _ h => ?_)
        refine AW_goto (tgt := 143) dX6_advance_179 (by decide) ?_
        exact (ih _ _ _ h)
def f_X6_advance_227 (N : Nat) (A : hP) (x0 : Option Nat) (s0 : Option Nat) (s1 : Int32) : Option (Unit × hP) := (oP A s0 6 6 (.int s1)).bind fun A21 => (oI A21 x0 6 4).bind fun v22 => (oP A21 x0 6 4 (.int (v22 + (1 : Int32)))).bind fun A23 => f_X6_advance_240 N A23
set_option maxRecDepth 20000 in
set_option maxHeartbeats 4000000 in
theorem t_X6_advance_227 {l : Launch} {G : gS} (N : Nat) (A : hP) (x0 : Option Nat) (s0 : Option Nat) (s1 : Int32) (res : Unit × hP) (h : f_X6_advance_227 N A x0 s0 s1 = some res) : AW l mX6_advance (g_rm 1 0 0) G (g_Qf G (gu res) 0 0) A 0 0 227 [some (va_rf x0)] [.int s1, va_rf s0] := by
  unfold f_X6_advance_227 at h
  refine AW_put (ci := 6) (k0 := 6) (C := RX6) (T := TX6) (N := 8) (ty0 := tyX6) dX6_advance_227 rfl (gT_u tU_X6) tyX6_ok nmX6 (by decide) (List.mem_cons_of_mem _ tF_X6_102) (Or.inl rfl) rfl rfl h (fun A21 _ h => ?_)
  refine AW_aload_n dX6_advance_230 rfl ?_
  refine AW_dup dX6_advance_231 (g_cat_rf _) ?_
  refine AW_getI (ci := 6) (k0 := 4) (C := RX6) (T := TX6) (N := 8) dX6_advance_232 rfl (gT_u tU_X6) (by decide) (List.mem_cons_of_mem _ tF_X6_24) h (fun v22 _ h => ?_)
  refine AW_iconst (v := 1) dX6_advance_235 (by decide) ?_
  refine AW_iadd dX6_advance_236 ?_
  refine AW_put (ci := 6) (k0 := 4) (C := RX6) (T := TX6) (N := 8) (ty0 := tyX6) dX6_advance_237 rfl (gT_u tU_X6) tyX6_ok nmX6 (by decide) (List.mem_cons_of_mem _ tF_X6_24) (Or.inl rfl) rfl rfl h (fun A23 _ h => ?_)
  exact AW_fewer (fw_d fw_n) (t_X6_advance_240 N _ _ h)
def f_X6_advance_39 (N : Nat) (A : hP) (x0 : Option Nat) : Option (Unit × hP) := (oI A x0 6 4).bind fun v24 => (oP A x0 6 5 (.int v24)).bind fun A25 => (oI A25 x0 6 4).bind fun v26 => (oI A25 x0 6 1).bind fun v27 => if v26 < v27 then ((oR A25 x0 6 0).bind fun v28 => (oI A25 x0 6 4).bind fun v29 => (oA A25 v28 1 v29).bind fun v30 => (f_X6_isLetter N A25 v30).bind fun q31 => if q31.1 = (0) then ((oR q31.2 x0 6 0).bind fun v32 => (oI q31.2 x0 6 4).bind fun v33 => (oA q31.2 v32 1 v33).bind fun v34 => (f_X6_isFigure N q31.2 v34).bind fun q35 => if q35.1 = (0) then ((oR q35.2 x0 6 0).bind fun v36 => (oI q35.2 x0 6 4).bind fun v37 => (oA q35.2 v36 1 v37).bind fun v38 => if v38 = (59 : Int32) then (f_X6_advance_227 N q35.2 x0 x0 (3 : Int32)) else (f_X6_advance_227 N q35.2 x0 x0 (4 : Int32))) else (f_X6_advance_143 N N q35.2 x0)) else (f_X6_advance_81 N N q31.2 x0)) else ((oP A25 x0 6 6 (.int (0 : Int32))).bind fun A39 => f_X6_advance_240 N A39)
set_option maxRecDepth 20000 in
set_option maxHeartbeats 4000000 in
theorem t_X6_advance_39 {l : Launch} {G : gS} (N : Nat) (A : hP) (x0 : Option Nat) (res : Unit × hP) (h : f_X6_advance_39 N A x0 = some res) : AW l mX6_advance (g_rm 1 0 0) G (g_Qf G (gu res) 0 0) A 0 0 39 [some (va_rf x0)] [] := by
  unfold f_X6_advance_39 at h
  refine AW_aload_n dX6_advance_39 rfl ?_
  refine AW_aload_n dX6_advance_40 rfl ?_
  refine AW_getI (ci := 6) (k0 := 4) (C := RX6) (T := TX6) (N := 8) dX6_advance_41 rfl (gT_u tU_X6) (by decide) (List.mem_cons_of_mem _ tF_X6_24) h (fun v24 _ h => ?_)
  refine AW_put (ci := 6) (k0 := 5) (C := RX6) (T := TX6) (N := 8) (ty0 := tyX6) dX6_advance_44 rfl (gT_u tU_X6) tyX6_ok nmX6 (by decide) (List.mem_cons_of_mem _ tF_X6_131) (Or.inl rfl) rfl rfl h (fun A25 _ h => ?_)
  refine AW_aload_n dX6_advance_47 rfl ?_
  refine AW_getI (ci := 6) (k0 := 4) (C := RX6) (T := TX6) (N := 8) dX6_advance_48 rfl (gT_u tU_X6) (by decide) (List.mem_cons_of_mem _ tF_X6_24) h (fun v26 _ h => ?_)
  refine AW_aload_n dX6_advance_51 rfl ?_
  refine AW_getI (ci := 6) (k0 := 1) (C := RX6) (T := TX6) (N := 8) dX6_advance_52 rfl (gT_u tU_X6) (by decide) (List.mem_cons_of_mem _ tF_X6_15) h (fun v27 _ h => ?_)
  refine AW_icmp_lt (tgt := 66) dX6_advance_55 (by decide) h (fun _ h => ?_) (fun _ h => ?_)
  · refine AW_aload_n dX6_advance_66 rfl ?_
    refine AW_getR (ci := 6) (k0 := 0) (C := RX6) (T := TX6) (N := 8) dX6_advance_67 rfl (gT_u tU_X6) (by decide) (List.mem_cons_of_mem _ tF_X6_11) h (fun v28 _ h => ?_)
    refine AW_aload_n dX6_advance_70 rfl ?_
    refine AW_getI (ci := 6) (k0 := 4) (C := RX6) (T := TX6) (N := 8) dX6_advance_71 rfl (gT_u tU_X6) (by decide) (List.mem_cons_of_mem _ tF_X6_24) h (fun v29 _ h => ?_)
    refine AW_bald dX6_advance_74 h (fun v30 _ h => ?_)
    refine AW_callSi (y := yX6_isLetter) (cc := cX6_isLetter) (n := 1) (d := 0) (mc := 0) (ms := 0) (np := 1) (ret := (some .boolean)) (As := [.int v30]) (st := []) dX6_advance_75 gT_s tM_X6_148 tS_X6_isLetter tIni_X6 tY_X6_isLetter (by decide +kernel) ⟨by decide, by decide⟩ ⟨by decide, by decide⟩ (Nat.le_of_ble_eq_true rfl) rfl h (fun q hq => c_X6_isLetter N _ _ q hq) (fun q31 _ h => ?_)
    refine AW_if_eq (tgt := 128) dX6_advance_78 (by decide) h (fun _ h => ?_) (fun _ h => ?_)
    · refine AW_aload_n dX6_advance_128 rfl ?_
      refine AW_getR (ci := 6) (k0 := 0) (C := RX6) (T := TX6) (N := 8) dX6_advance_129 rfl (gT_u tU_X6) (by decide) (List.mem_cons_of_mem _ tF_X6_11) h (fun v32 _ h => ?_)
      refine AW_aload_n dX6_advance_132 rfl ?_
      refine AW_getI (ci := 6) (k0 := 4) (C := RX6) (T := TX6) (N := 8) dX6_advance_133 rfl (gT_u tU_X6) (by decide) (List.mem_cons_of_mem _ tF_X6_24) h (fun v33 _ h => ?_)
      refine AW_bald dX6_advance_136 h (fun v34 _ h => ?_)
      refine AW_callSi (y := yX6_isFigure) (cc := cX6_isFigure) (n := 1) (d := 0) (mc := 0) (ms := 0) (np := 1) (ret := (some .boolean)) (As := [.int v34]) (st := []) dX6_advance_137 gT_s tM_X6_151 tS_X6_isFigure tIni_X6 tY_X6_isFigure (by decide +kernel) ⟨by decide, by decide⟩ ⟨by decide, by decide⟩ (Nat.le_of_ble_eq_true rfl) rfl h (fun q hq => c_X6_isFigure N _ _ q hq) (fun q35 _ h => ?_)
      refine AW_if_eq (tgt := 207) dX6_advance_140 (by decide) h (fun _ h => ?_) (fun _ h => ?_)
      · refine AW_aload_n dX6_advance_207 rfl ?_
        refine AW_aload_n dX6_advance_208 rfl ?_
        refine AW_getR (ci := 6) (k0 := 0) (C := RX6) (T := TX6) (N := 8) dX6_advance_209 rfl (gT_u tU_X6) (by decide) (List.mem_cons_of_mem _ tF_X6_11) h (fun v36 _ h => ?_)
        refine AW_aload_n dX6_advance_212 rfl ?_
        refine AW_getI (ci := 6) (k0 := 4) (C := RX6) (T := TX6) (N := 8) dX6_advance_213 rfl (gT_u tU_X6) (by decide) (List.mem_cons_of_mem _ tF_X6_24) h (fun v37 _ h => ?_)
        refine AW_bald dX6_advance_216 h (fun v38 _ h => ?_)
        refine AW_bipush (v := 59) dX6_advance_217 (by decide) ?_
        refine AW_icmp_ne (tgt := 226) dX6_advance_219 (by decide) h (fun _ h => ?_) (fun _ h => ?_)
        · refine AW_iconst (v := 4) dX6_advance_226 (by decide) ?_
          exact (t_X6_advance_227 N _ _ _ _ _ h)
        · refine AW_iconst (v := 3) dX6_advance_222 (by decide) ?_
          refine AW_goto (tgt := 227) dX6_advance_223 (by decide) ?_
          exact (t_X6_advance_227 N _ _ _ _ _ h)
      · exact (t_X6_advance_143 N N _ _ _ h)
    · exact (t_X6_advance_81 N N _ _ _ h)
  · refine AW_aload_n dX6_advance_58 rfl ?_
    refine AW_iconst (v := 0) dX6_advance_59 (by decide) ?_
    refine AW_put (ci := 6) (k0 := 6) (C := RX6) (T := TX6) (N := 8) (ty0 := tyX6) dX6_advance_60 rfl (gT_u tU_X6) tyX6_ok nmX6 (by decide) (List.mem_cons_of_mem _ tF_X6_102) (Or.inl rfl) rfl rfl h (fun A39 _ h => ?_)
    refine AW_goto (tgt := 240) dX6_advance_63 (by decide) ?_
    exact AW_fewer (fw_d fw_n) (t_X6_advance_240 N _ _ h)
def f_X6_advance_0 (N : Nat) : Nat → hP → Option Nat → Option (Unit × hP)
  | 0, _, _ => none
  | n + 1, A, x0 => (oI A x0 6 4).bind fun v40 => (oI A x0 6 1).bind fun v41 => if v41 ≤ v40 then (f_X6_advance_39 N A x0) else ((oR A x0 6 0).bind fun v42 => (oI A x0 6 4).bind fun v43 => (oA A v42 1 v43).bind fun v44 => (f_X6_isBetween N A v44).bind fun q45 => if q45.1 = (0) then (f_X6_advance_39 N q45.2 x0) else ((oI q45.2 x0 6 4).bind fun v46 => (oP q45.2 x0 6 4 (.int (v46 + (1 : Int32)))).bind fun A47 => f_X6_advance_0 N n A47 x0))
set_option maxRecDepth 20000 in
set_option maxHeartbeats 4000000 in
theorem t_X6_advance_0 {l : Launch} {G : gS} (N : Nat) : ∀ (n : Nat) (A : hP) (x0 : Option Nat) (res : Unit × hP), f_X6_advance_0 N n A x0 = some res → AW l mX6_advance (g_rm 1 0 0) G (g_Qf G (gu res) 0 0) A 0 0 0 [some (va_rf x0)] [] := by
  intro n
  induction n with
  | zero => intro A x0 res h; cases h
  | succ n ih =>
    intro A x0 res h
    rw [f_X6_advance_0] at h
    refine AW_aload_n dX6_advance_0 rfl ?_
    refine AW_getI (ci := 6) (k0 := 4) (C := RX6) (T := TX6) (N := 8) dX6_advance_1 rfl (gT_u tU_X6) (by decide) (List.mem_cons_of_mem _ tF_X6_24) h (fun v40 _ h => ?_)
    refine AW_aload_n dX6_advance_4 rfl ?_
    refine AW_getI (ci := 6) (k0 := 1) (C := RX6) (T := TX6) (N := 8) dX6_advance_5 rfl (gT_u tU_X6) (by decide) (List.mem_cons_of_mem _ tF_X6_15) h (fun v41 _ h => ?_)
    refine AW_icmp_ge (tgt := 39) dX6_advance_8 (by decide) h (fun _ h => ?_) (fun _ h => ?_)
    · exact (t_X6_advance_39 N _ _ _ h)
    · refine AW_aload_n dX6_advance_11 rfl ?_
      refine AW_getR (ci := 6) (k0 := 0) (C := RX6) (T := TX6) (N := 8) dX6_advance_12 rfl (gT_u tU_X6) (by decide) (List.mem_cons_of_mem _ tF_X6_11) h (fun v42 _ h => ?_)
      refine AW_aload_n dX6_advance_15 rfl ?_
      refine AW_getI (ci := 6) (k0 := 4) (C := RX6) (T := TX6) (N := 8) dX6_advance_16 rfl (gT_u tU_X6) (by decide) (List.mem_cons_of_mem _ tF_X6_24) h (fun v43 _ h => ?_)
      refine AW_bald dX6_advance_19 h (fun v44 _ h => ?_)
      refine AW_callSi (y := yX6_isBetween) (cc := cX6_isBetween) (n := 1) (d := 0) (mc := 0) (ms := 0) (np := 1) (ret := (some .boolean)) (As := [.int v44]) (st := []) dX6_advance_20 gT_s tM_X6_145 tS_X6_isBetween tIni_X6 tY_X6_isBetween (by decide +kernel) ⟨by decide, by decide⟩ ⟨by decide, by decide⟩ (Nat.le_of_ble_eq_true rfl) rfl h (fun q hq => c_X6_isBetween N _ _ q hq) (fun q45 _ h => ?_)
      refine AW_if_eq (tgt := 39) dX6_advance_23 (by decide) h (fun _ h => ?_) (fun _ h => ?_)
      · exact (t_X6_advance_39 N _ _ _ h)
      · refine AW_aload_n dX6_advance_26 rfl ?_
        refine AW_dup dX6_advance_27 (g_cat_rf _) ?_
        refine AW_getI (ci := 6) (k0 := 4) (C := RX6) (T := TX6) (N := 8) dX6_advance_28 rfl (gT_u tU_X6) (by decide) (List.mem_cons_of_mem _ tF_X6_24) h (fun v46 _ h => ?_)
        refine AW_iconst (v := 1) dX6_advance_31 (by decide) ?_
        refine AW_iadd dX6_advance_32 ?_
        refine AW_put (ci := 6) (k0 := 4) (C := RX6) (T := TX6) (N := 8) (ty0 := tyX6) dX6_advance_33 rfl (gT_u tU_X6) tyX6_ok nmX6 (by decide) (List.mem_cons_of_mem _ tF_X6_24) (Or.inl rfl) rfl rfl h (fun A47 _ h => ?_)
        refine AW_goto (tgt := 0) dX6_advance_36 (by decide) ?_
        exact (ih _ _ _ h)
def f_X6_advance (N : Nat) (A : hP) (x0 : Option Nat) : Option (Unit × hP) := f_X6_advance_0 N N A x0
set_option maxRecDepth 20000 in
theorem c_X6_advance {l : Launch} (N : Nat) (A : hP) (x0 : Option Nat) (res : Unit × hP) (h : f_X6_advance N A x0 = some res) : Ct l mX6_advance 1 0 0 A [va_rf x0] (gu res) := Ct.of (lv := [(0, va_rf x0)]) (ls := [some (va_rf x0)]) (by decide) (by simp [lv_args, g_cat_rf, cat_i, cat_l]) rfl (by simp [g_cat_rf, cat_i, cat_l]) (fun G => (t_X6_advance_0 N N A x0 res h))
abbrev mX6_isWord : gM := gMk yX6_isWord cX6_isWord 3 (some .boolean)
def f_X6_isWord_24 (N : Nat) (A : hP) : Option (Int32 × hP) := if (0 : Int32) = 0 ∨ (0 : Int32) = 1 then some ((0 : Int32), A) else none
set_option maxRecDepth 20000 in
set_option maxHeartbeats 4000000 in
theorem t_X6_isWord_24 {l : Launch} {G : gS} (N : Nat) (A : hP) (res : Int32 × hP) (h : f_X6_isWord_24 N A  = some res) : AW l mX6_isWord (g_rm 4 0 0) G (g_Qf G (gi res) 0 0) A 0 0 24 [none, none, none] [] := by
  unfold f_X6_isWord_24 at h
  refine AW_iconst (v := 0) dX6_isWord_24 (by decide) ?_
  exact AW_zret dX6_isWord_25 rfl ⟨Nat.zero_le _, Nat.zero_le _⟩ h
def f_X6_isWord_31 (N : Nat) : Nat → hP → Option Nat → Option Nat → Int32 → Option (Int32 × hP)
  | 0, _, _, _, _ => none
  | n + 1, A, x0, x1, x2 => (oI A x0 6 4).bind fun v1 => if v1 ≤ x2 then (if (1 : Int32) = 0 ∨ (1 : Int32) = 1 then some ((1 : Int32), A) else none) else ((oR A x0 6 0).bind fun v2 => (oA A v2 1 x2).bind fun v3 => (oI A x0 6 5).bind fun v4 => (oSx x1).bind fun _ => (f_J0_charAt_5068e N A x1 (x2 - v4)).bind fun q5 => if v3 = q5.1 then (f_X6_isWord_31 N n q5.2 x0 x1 (x2 + (1 : Int32))) else (if (0 : Int32) = 0 ∨ (0 : Int32) = 1 then some ((0 : Int32), q5.2) else none))
set_option maxRecDepth 20000 in
set_option maxHeartbeats 4000000 in
theorem t_X6_isWord_31 {l : Launch} {G : gS} (N : Nat) : ∀ (n : Nat) (A : hP) (x0 : Option Nat) (x1 : Option Nat) (x2 : Int32) (res : Int32 × hP), f_X6_isWord_31 N n A x0 x1 x2 = some res → AW l mX6_isWord (g_rm 4 0 0) G (g_Qf G (gi res) 0 0) A 0 0 31 [some (va_rf x0), some (va_rf x1), some (.int x2)] [] := by
  intro n
  induction n with
  | zero => intro A x0 x1 x2 res h; cases h
  | succ n ih =>
    intro A x0 x1 x2 res h
    rw [f_X6_isWord_31] at h
    refine AW_iload_n dX6_isWord_31 rfl ?_
    refine AW_aload_n dX6_isWord_32 rfl ?_
    refine AW_getI (ci := 6) (k0 := 4) (C := RX6) (T := TX6) (N := 8) dX6_isWord_33 rfl (gT_u tU_X6) (by decide) (List.mem_cons_of_mem _ tF_X6_24) h (fun v1 _ h => ?_)
    refine AW_icmp_ge (tgt := 66) dX6_isWord_36 (by decide) h (fun _ h => ?_) (fun _ h => ?_)
    · refine AW_iconst (v := 1) dX6_isWord_66 (by decide) ?_
      exact AW_zret dX6_isWord_67 rfl ⟨Nat.zero_le _, Nat.zero_le _⟩ h
    · refine AW_aload_n dX6_isWord_39 rfl ?_
      refine AW_getR (ci := 6) (k0 := 0) (C := RX6) (T := TX6) (N := 8) dX6_isWord_40 rfl (gT_u tU_X6) (by decide) (List.mem_cons_of_mem _ tF_X6_11) h (fun v2 _ h => ?_)
      refine AW_iload_n dX6_isWord_43 rfl ?_
      refine AW_bald dX6_isWord_44 h (fun v3 _ h => ?_)
      refine AW_aload_n dX6_isWord_45 rfl ?_
      refine AW_iload_n dX6_isWord_46 rfl ?_
      refine AW_aload_n dX6_isWord_47 rfl ?_
      refine AW_getI (ci := 6) (k0 := 5) (C := RX6) (T := TX6) (N := 8) dX6_isWord_48 rfl (gT_u tU_X6) (by decide) (List.mem_cons_of_mem _ tF_X6_131) h (fun v4 _ h => ?_)
      refine AW_isub dX6_isWord_51 ?_
      refine AW_callWi (y := yJ0_charAt_5068e) (cc := cJ0_charAt_5068e) (n := 2) (d := 3) (mc := 0) (ms := 0) (np := 1) (ret := (some .char)) (As := [.int (x2 - v4)]) (st := [.int v3]) dX6_isWord_52 gT_s tM_X6_141 tI_J0_charAt_5068e tSel_J0_J0_J0_charAt_5068e tIni_J0 tY_J0_charAt_5068e (by decide +kernel) ⟨by decide, by decide⟩ ⟨by decide, by decide⟩ (Nat.le_of_ble_eq_true rfl) rfl h (fun q hq => c_J0_charAt_5068e N _ _ _ q hq) (fun q5 _ h => ?_)
      refine AW_icmp_eq (tgt := 60) dX6_isWord_55 (by decide) h (fun _ h => ?_) (fun _ h => ?_)
      · refine AW_iinc (v := 1) (ls' := [some (va_rf x0), some (va_rf x1), some (.int (x2 + (1 : Int32)))]) dX6_isWord_60 rfl (c1_r rfl) (by decide) (by decide) rfl ?_
        refine AW_goto (tgt := 31) dX6_isWord_63 (by decide) ?_
        exact (ih _ _ _ _ _ h)
      · refine AW_iconst (v := 0) dX6_isWord_58 (by decide) ?_
        exact AW_zret dX6_isWord_59 rfl ⟨Nat.zero_le _, Nat.zero_le _⟩ h
def f_X6_isWord_0 (N : Nat) (A : hP) (x0 : Option Nat) (x1 : Option Nat) : Option (Int32 × hP) := (oI A x0 6 6).bind fun v6 => if v6 = (1 : Int32) then ((oI A x0 6 4).bind fun v7 => (oI A x0 6 5).bind fun v8 => (oSx x1).bind fun _ => (f_J0_length_8abf5 N A x1).bind fun q9 => if (v7 - v8) = q9.1 then ((oI q9.2 x0 6 5).bind fun v10 => f_X6_isWord_31 N N q9.2 x0 x1 v10) else (f_X6_isWord_24 N q9.2)) else (f_X6_isWord_24 N A)
set_option maxRecDepth 20000 in
set_option maxHeartbeats 4000000 in
theorem t_X6_isWord_0 {l : Launch} {G : gS} (N : Nat) (A : hP) (x0 : Option Nat) (x1 : Option Nat) (res : Int32 × hP) (h : f_X6_isWord_0 N A x0 x1 = some res) : AW l mX6_isWord (g_rm 4 0 0) G (g_Qf G (gi res) 0 0) A 0 0 0 [some (va_rf x0), some (va_rf x1), none] [] := by
  unfold f_X6_isWord_0 at h
  refine AW_aload_n dX6_isWord_0 rfl ?_
  refine AW_getI (ci := 6) (k0 := 6) (C := RX6) (T := TX6) (N := 8) dX6_isWord_1 rfl (gT_u tU_X6) (by decide) (List.mem_cons_of_mem _ tF_X6_102) h (fun v6 _ h => ?_)
  refine AW_iconst (v := 1) dX6_isWord_4 (by decide) ?_
  refine AW_icmp_ne (tgt := 24) dX6_isWord_5 (by decide) h (fun _ h => ?_) (fun _ h => ?_)
  · exact AW_fewer (fw_d (fw_d (fw_k fw_n))) (t_X6_isWord_24 N _ _ h)
  · refine AW_aload_n dX6_isWord_8 rfl ?_
    refine AW_getI (ci := 6) (k0 := 4) (C := RX6) (T := TX6) (N := 8) dX6_isWord_9 rfl (gT_u tU_X6) (by decide) (List.mem_cons_of_mem _ tF_X6_24) h (fun v7 _ h => ?_)
    refine AW_aload_n dX6_isWord_12 rfl ?_
    refine AW_getI (ci := 6) (k0 := 5) (C := RX6) (T := TX6) (N := 8) dX6_isWord_13 rfl (gT_u tU_X6) (by decide) (List.mem_cons_of_mem _ tF_X6_131) h (fun v8 _ h => ?_)
    refine AW_isub dX6_isWord_16 ?_
    refine AW_aload_n dX6_isWord_17 rfl ?_
    refine AW_callWi (y := yJ0_length_8abf5) (cc := cJ0_length_8abf5) (n := 1) (d := 1) (mc := 0) (ms := 0) (np := 0) (ret := (some .int)) (As := []) (st := [.int (v7 - v8)]) dX6_isWord_18 gT_s tM_X6_137 tI_J0_length_8abf5 tSel_J0_J0_J0_length_8abf5 tIni_J0 tY_J0_length_8abf5 (by decide +kernel) ⟨by decide, by decide⟩ ⟨by decide, by decide⟩ (Nat.le_of_ble_eq_true rfl) rfl h (fun q hq => c_J0_length_8abf5 N _ _ q hq) (fun q9 _ h => ?_)
    refine AW_icmp_eq (tgt := 26) dX6_isWord_21 (by decide) h (fun _ h => ?_) (fun _ h => ?_)
    · refine AW_aload_n dX6_isWord_26 rfl ?_
      refine AW_getI (ci := 6) (k0 := 5) (C := RX6) (T := TX6) (N := 8) dX6_isWord_27 rfl (gT_u tU_X6) (by decide) (List.mem_cons_of_mem _ tF_X6_131) h (fun v10 _ h => ?_)
      refine AW_istore_n (ls' := [some (va_rf x0), some (va_rf x1), some (.int v10)]) dX6_isWord_30 (c1_r rfl) (by decide) rfl ?_
      exact (t_X6_isWord_31 N N _ _ _ _ _ h)
    · exact AW_fewer (fw_d (fw_d (fw_k fw_n))) (t_X6_isWord_24 N _ _ h)
def f_X6_isWord (N : Nat) (A : hP) (x0 : Option Nat) (x1 : Option Nat) : Option (Int32 × hP) := f_X6_isWord_0 N A x0 x1
set_option maxRecDepth 20000 in
theorem c_X6_isWord {l : Launch} (N : Nat) (A : hP) (x0 : Option Nat) (x1 : Option Nat) (res : Int32 × hP) (h : f_X6_isWord N A x0 x1 = some res) : Ct l mX6_isWord 4 0 0 A [va_rf x0, va_rf x1] (gi res) := Ct.of (lv := [(0, va_rf x0), (1, va_rf x1)]) (ls := [some (va_rf x0), some (va_rf x1), none]) (by decide) (by simp [lv_args, g_cat_rf, cat_i, cat_l]) rfl (by simp [g_cat_rf, cat_i, cat_l]) (fun G => (t_X6_isWord_0 N A x0 x1 res h))
abbrev mX6_fail : gM := gMk yX6_fail cX6_fail 2 (some .boolean)
def f_X6_fail_0 (N : Nat) (A : hP) (x0 : Option Nat) (x1 : Int32) : Option (Int32 × hP) := (oP A x0 6 2 (.int x1)).bind fun A1 => (oI A1 x0 6 5).bind fun v2 => (oP A1 x0 6 3 (.int v2)).bind fun A3 => if (0 : Int32) = 0 ∨ (0 : Int32) = 1 then some ((0 : Int32), A3) else none
set_option maxRecDepth 20000 in
set_option maxHeartbeats 4000000 in
theorem t_X6_fail_0 {l : Launch} {G : gS} (N : Nat) (A : hP) (x0 : Option Nat) (x1 : Int32) (res : Int32 × hP) (h : f_X6_fail_0 N A x0 x1 = some res) : AW l mX6_fail (g_rm 0 0 0) G (g_Qf G (gi res) 0 0) A 0 0 0 [some (va_rf x0), some (.int x1)] [] := by
  unfold f_X6_fail_0 at h
  refine AW_aload_n dX6_fail_0 rfl ?_
  refine AW_iload_n dX6_fail_1 rfl ?_
  refine AW_put (ci := 6) (k0 := 2) (C := RX6) (T := TX6) (N := 8) (ty0 := tyX6) dX6_fail_2 rfl (gT_u tU_X6) tyX6_ok nmX6 (by decide) (List.mem_cons_of_mem _ tF_X6_128) (Or.inl rfl) rfl rfl h (fun A1 _ h => ?_)
  refine AW_aload_n dX6_fail_5 rfl ?_
  refine AW_aload_n dX6_fail_6 rfl ?_
  refine AW_getI (ci := 6) (k0 := 5) (C := RX6) (T := TX6) (N := 8) dX6_fail_7 rfl (gT_u tU_X6) (by decide) (List.mem_cons_of_mem _ tF_X6_131) h (fun v2 _ h => ?_)
  refine AW_put (ci := 6) (k0 := 3) (C := RX6) (T := TX6) (N := 8) (ty0 := tyX6) dX6_fail_10 rfl (gT_u tU_X6) tyX6_ok nmX6 (by decide) (List.mem_cons_of_mem _ tF_X6_134) (Or.inl rfl) rfl rfl h (fun A3 _ h => ?_)
  refine AW_iconst (v := 0) dX6_fail_13 (by decide) ?_
  exact AW_zret dX6_fail_14 rfl ⟨Nat.zero_le _, Nat.zero_le _⟩ h
def f_X6_fail (N : Nat) (A : hP) (x0 : Option Nat) (x1 : Int32) : Option (Int32 × hP) := f_X6_fail_0 N A x0 x1
set_option maxRecDepth 20000 in
theorem c_X6_fail {l : Launch} (N : Nat) (A : hP) (x0 : Option Nat) (x1 : Int32) (res : Int32 × hP) (h : f_X6_fail N A x0 x1 = some res) : Ct l mX6_fail 0 0 0 A [va_rf x0, .int x1] (gi res) := Ct.of (lv := [(0, va_rf x0), (1, .int x1)]) (ls := [some (va_rf x0), some (.int x1)]) (by decide) (by simp [lv_args, g_cat_rf, cat_i, cat_l]) rfl (by simp [g_cat_rf, cat_i, cat_l]) (fun G => (t_X6_fail_0 N A x0 x1 res h))
abbrev mX6_takeWord : gM := gMk yX6_takeWord cX6_takeWord 2 (some .boolean)
def f_X6_takeWord_0 (N : Nat) (A : hP) (x0 : Option Nat) (x1 : Option Nat) : Option (Int32 × hP) := (oCk A x0 6).bind fun _ => (f_X6_isWord N A x0 x1).bind fun q1 => if q1.1 = (0) then ((oCk q1.2 x0 6).bind fun _ => (f_X6_fail N q1.2 x0 (1 : Int32)).bind fun q3 => if q3.1 = 0 ∨ q3.1 = 1 then some (q3.1, q3.2) else none) else ((oCk q1.2 x0 6).bind fun _ => (f_X6_advance N q1.2 x0).bind fun q2 => if (1 : Int32) = 0 ∨ (1 : Int32) = 1 then some ((1 : Int32), q2.2) else none)
set_option maxRecDepth 20000 in
set_option maxHeartbeats 4000000 in
theorem t_X6_takeWord_0 {l : Launch} {G : gS} (N : Nat) (A : hP) (x0 : Option Nat) (x1 : Option Nat) (res : Int32 × hP) (h : f_X6_takeWord_0 N A x0 x1 = some res) : AW l mX6_takeWord (g_rm 5 0 0) G (g_Qf G (gi res) 0 0) A 0 0 0 [some (va_rf x0), some (va_rf x1)] [] := by
  unfold f_X6_takeWord_0 at h
  refine AW_aload_n dX6_takeWord_0 rfl ?_
  refine AW_aload_n dX6_takeWord_1 rfl ?_
  refine AW_callVi (y := yX6_isWord) (cc := cX6_isWord) (n := 3) (d := 4) (mc := 0) (ms := 0) (np := 1) (ret := (some .boolean)) (As := [va_rf x1]) (st := []) (ci := 6) dX6_takeWord_2 gT_s rfl tM_X6_75 tI_X6_isWord selp_X6_isWord tIni_X6 tY_X6_isWord (by decide +kernel) ⟨by decide, by decide⟩ ⟨by decide, by decide⟩ (Nat.le_of_ble_eq_true rfl) rfl h (fun q hq => c_X6_isWord N _ _ _ q hq) (fun q1 _ h => ?_)
  refine AW_if_ne (tgt := 14) dX6_takeWord_5 (by decide) h (fun _ h => ?_) (fun _ h => ?_)
  · refine AW_aload_n dX6_takeWord_14 rfl ?_
    refine AW_callVu (y := yX6_advance) (cc := cX6_advance) (n := 1) (d := 1) (mc := 0) (ms := 0) (np := 0) (ret := none) (As := []) (st := []) (ci := 6) dX6_takeWord_15 gT_s rfl tM_X6_27 tI_X6_advance selp_X6_advance tIni_X6 tY_X6_advance (by decide +kernel) ⟨by decide, by decide⟩ ⟨by decide, by decide⟩ (Nat.le_of_ble_eq_true rfl) rfl h (fun q hq => c_X6_advance N _ _ q hq) (fun q2 _ h => ?_)
    refine AW_iconst (v := 1) dX6_takeWord_18 (by decide) ?_
    exact AW_zret dX6_takeWord_19 rfl ⟨Nat.zero_le _, Nat.zero_le _⟩ h
  · refine AW_aload_n dX6_takeWord_8 rfl ?_
    refine AW_iconst (v := 1) dX6_takeWord_9 (by decide) ?_
    refine AW_callVi (y := yX6_fail) (cc := cX6_fail) (n := 2) (d := 0) (mc := 0) (ms := 0) (np := 1) (ret := (some .boolean)) (As := [.int (1 : Int32)]) (st := []) (ci := 6) dX6_takeWord_10 gT_s rfl tM_X6_78 tI_X6_fail selp_X6_fail tIni_X6 tY_X6_fail (by decide +kernel) ⟨by decide, by decide⟩ ⟨by decide, by decide⟩ (Nat.le_of_ble_eq_true rfl) rfl h (fun q hq => c_X6_fail N _ _ _ q hq) (fun q3 _ h => ?_)
    exact AW_zret dX6_takeWord_13 rfl ⟨Nat.zero_le _, Nat.zero_le _⟩ h
def f_X6_takeWord (N : Nat) (A : hP) (x0 : Option Nat) (x1 : Option Nat) : Option (Int32 × hP) := f_X6_takeWord_0 N A x0 x1
set_option maxRecDepth 20000 in
theorem c_X6_takeWord {l : Launch} (N : Nat) (A : hP) (x0 : Option Nat) (x1 : Option Nat) (res : Int32 × hP) (h : f_X6_takeWord N A x0 x1 = some res) : Ct l mX6_takeWord 5 0 0 A [va_rf x0, va_rf x1] (gi res) := Ct.of (lv := [(0, va_rf x0), (1, va_rf x1)]) (ls := [some (va_rf x0), some (va_rf x1)]) (by decide) (by simp [lv_args, g_cat_rf, cat_i, cat_l]) rfl (by simp [g_cat_rf, cat_i, cat_l]) (fun G => (t_X6_takeWord_0 N A x0 x1 res h))
abbrev mX6_numberRead : gM := gMk yX6_numberRead cX6_numberRead 3 (some .int)
def f_X6_numberRead_7 (N : Nat) : Nat → hP → Option Nat → Int32 → Int32 → Option (Int32 × hP)
  | 0, _, _, _, _ => none
  | n + 1, A, x0, x1, x2 => (oI A x0 6 4).bind fun v1 => if v1 ≤ x2 then (some (x1, A)) else ((oR A x0 6 0).bind fun v2 => (oA A v2 1 x2).bind fun v3 => f_X6_numberRead_7 N n A x0 (((x1 * (10 : Int32)) + v3) - (48 : Int32)) (x2 + (1 : Int32)))
set_option maxRecDepth 20000 in
set_option maxHeartbeats 4000000 in
theorem t_X6_numberRead_7 {l : Launch} {G : gS} (N : Nat) : ∀ (n : Nat) (A : hP) (x0 : Option Nat) (x1 : Int32) (x2 : Int32) (res : Int32 × hP), f_X6_numberRead_7 N n A x0 x1 x2 = some res → AW l mX6_numberRead (g_rm 0 0 0) G (g_Qf G (gi res) 0 0) A 0 0 7 [some (va_rf x0), some (.int x1), some (.int x2)] [] := by
  intro n
  induction n with
  | zero => intro A x0 x1 x2 res h; cases h
  | succ n ih =>
    intro A x0 x1 x2 res h
    rw [f_X6_numberRead_7] at h
    refine AW_iload_n dX6_numberRead_7 rfl ?_
    refine AW_aload_n dX6_numberRead_8 rfl ?_
    refine AW_getI (ci := 6) (k0 := 4) (C := RX6) (T := TX6) (N := 8) dX6_numberRead_9 rfl (gT_u tU_X6) (by decide) (List.mem_cons_of_mem _ tF_X6_24) h (fun v1 _ h => ?_)
    refine AW_icmp_ge (tgt := 36) dX6_numberRead_12 (by decide) h (fun _ h => ?_) (fun _ h => ?_)
    · refine AW_iload_n dX6_numberRead_36 rfl ?_
      exact AW_iret dX6_numberRead_37 rfl ⟨Nat.zero_le _, Nat.zero_le _⟩ h
    · refine AW_iload_n dX6_numberRead_15 rfl ?_
      refine AW_bipush (v := 10) dX6_numberRead_16 (by decide) ?_
      refine AW_imul dX6_numberRead_18 ?_
      refine AW_aload_n dX6_numberRead_19 rfl ?_
      refine AW_getR (ci := 6) (k0 := 0) (C := RX6) (T := TX6) (N := 8) dX6_numberRead_20 rfl (gT_u tU_X6) (by decide) (List.mem_cons_of_mem _ tF_X6_11) h (fun v2 _ h => ?_)
      refine AW_iload_n dX6_numberRead_23 rfl ?_
      refine AW_bald dX6_numberRead_24 h (fun v3 _ h => ?_)
      refine AW_iadd dX6_numberRead_25 ?_
      refine AW_bipush (v := 48) dX6_numberRead_26 (by decide) ?_
      refine AW_isub dX6_numberRead_28 ?_
      refine AW_istore_n (ls' := [some (va_rf x0), some (.int (((x1 * (10 : Int32)) + v3) - (48 : Int32))), some (.int x2)]) dX6_numberRead_29 (c1_r rfl) (by decide) rfl ?_
      refine AW_iinc (v := 1) (ls' := [some (va_rf x0), some (.int (((x1 * (10 : Int32)) + v3) - (48 : Int32))), some (.int (x2 + (1 : Int32)))]) dX6_numberRead_30 rfl (c1_i rfl) (by decide) (by decide) rfl ?_
      refine AW_goto (tgt := 7) dX6_numberRead_33 (by decide) ?_
      exact (ih _ _ _ _ _ h)
def f_X6_numberRead_0 (N : Nat) (A : hP) (x0 : Option Nat) : Option (Int32 × hP) := (oI A x0 6 5).bind fun v4 => f_X6_numberRead_7 N N A x0 (0 : Int32) v4
set_option maxRecDepth 20000 in
set_option maxHeartbeats 4000000 in
theorem t_X6_numberRead_0 {l : Launch} {G : gS} (N : Nat) (A : hP) (x0 : Option Nat) (res : Int32 × hP) (h : f_X6_numberRead_0 N A x0 = some res) : AW l mX6_numberRead (g_rm 0 0 0) G (g_Qf G (gi res) 0 0) A 0 0 0 [some (va_rf x0), none, none] [] := by
  unfold f_X6_numberRead_0 at h
  refine AW_iconst (v := 0) dX6_numberRead_0 (by decide) ?_
  refine AW_istore_n (ls' := [some (va_rf x0), some (.int (0 : Int32)), none]) dX6_numberRead_1 (c1_r rfl) (by decide) rfl ?_
  refine AW_aload_n dX6_numberRead_2 rfl ?_
  refine AW_getI (ci := 6) (k0 := 5) (C := RX6) (T := TX6) (N := 8) dX6_numberRead_3 rfl (gT_u tU_X6) (by decide) (List.mem_cons_of_mem _ tF_X6_131) h (fun v4 _ h => ?_)
  refine AW_istore_n (ls' := [some (va_rf x0), some (.int (0 : Int32)), some (.int v4)]) dX6_numberRead_6 (c1_i rfl) (by decide) rfl ?_
  exact (t_X6_numberRead_7 N N _ _ _ _ _ h)
def f_X6_numberRead (N : Nat) (A : hP) (x0 : Option Nat) : Option (Int32 × hP) := f_X6_numberRead_0 N A x0
set_option maxRecDepth 20000 in
theorem c_X6_numberRead {l : Launch} (N : Nat) (A : hP) (x0 : Option Nat) (res : Int32 × hP) (h : f_X6_numberRead N A x0 = some res) : Ct l mX6_numberRead 0 0 0 A [va_rf x0] (gi res) := Ct.of (lv := [(0, va_rf x0)]) (ls := [some (va_rf x0), none, none]) (by decide) (by simp [lv_args, g_cat_rf, cat_i, cat_l]) rfl (by simp [g_cat_rf, cat_i, cat_l]) (fun G => (t_X6_numberRead_0 N A x0 res h))
abbrev mX6_takeNumber : gM := gMk yX6_takeNumber cX6_takeNumber 3 (some .boolean)
def f_X6_takeNumber_38 (N : Nat) (A : hP) (x0 : Option Nat) : Option (Int32 × hP) := (oCk A x0 6).bind fun _ => (f_X6_fail N A x0 (2 : Int32)).bind fun q1 => if q1.1 = 0 ∨ q1.1 = 1 then some (q1.1, q1.2) else none
set_option maxRecDepth 20000 in
set_option maxHeartbeats 4000000 in
theorem t_X6_takeNumber_38 {l : Launch} {G : gS} (N : Nat) (A : hP) (x0 : Option Nat) (res : Int32 × hP) (h : f_X6_takeNumber_38 N A x0 = some res) : AW l mX6_takeNumber (g_rm 2 0 0) G (g_Qf G (gi res) 0 0) A 0 0 38 [some (va_rf x0), none, none] [] := by
  unfold f_X6_takeNumber_38 at h
  refine AW_aload_n dX6_takeNumber_38 rfl ?_
  refine AW_iconst (v := 2) dX6_takeNumber_39 (by decide) ?_
  refine AW_callVi (y := yX6_fail) (cc := cX6_fail) (n := 2) (d := 0) (mc := 0) (ms := 0) (np := 1) (ret := (some .boolean)) (As := [.int (2 : Int32)]) (st := []) (ci := 6) dX6_takeNumber_40 gT_s rfl tM_X6_78 tI_X6_fail selp_X6_fail tIni_X6 tY_X6_fail (by decide +kernel) ⟨by decide, by decide⟩ ⟨by decide, by decide⟩ (Nat.le_of_ble_eq_true rfl) rfl h (fun q hq => c_X6_fail N _ _ _ q hq) (fun q1 _ h => ?_)
  exact AW_zret dX6_takeNumber_43 rfl ⟨Nat.zero_le _, Nat.zero_le _⟩ h
def f_X6_takeNumber_0 (N : Nat) (A : hP) (x0 : Option Nat) (x1 : Int32) (x2 : Int32) : Option (Int32 × hP) := (oI A x0 6 6).bind fun v2 => if v2 = (2 : Int32) then ((oCk A x0 6).bind fun _ => (f_X6_numberRead N A x0).bind fun q3 => (oP q3.2 x0 6 7 (.int q3.1)).bind fun A4 => (oI A4 x0 6 7).bind fun v5 => if v5 < x1 then (f_X6_takeNumber_38 N A4 x0) else ((oI A4 x0 6 7).bind fun v6 => if v6 ≤ x2 then ((oCk A4 x0 6).bind fun _ => (f_X6_advance N A4 x0).bind fun q7 => if (1 : Int32) = 0 ∨ (1 : Int32) = 1 then some ((1 : Int32), q7.2) else none) else (f_X6_takeNumber_38 N A4 x0))) else ((oCk A x0 6).bind fun _ => (f_X6_fail N A x0 (1 : Int32)).bind fun q8 => if q8.1 = 0 ∨ q8.1 = 1 then some (q8.1, q8.2) else none)
set_option maxRecDepth 20000 in
set_option maxHeartbeats 4000000 in
theorem t_X6_takeNumber_0 {l : Launch} {G : gS} (N : Nat) (A : hP) (x0 : Option Nat) (x1 : Int32) (x2 : Int32) (res : Int32 × hP) (h : f_X6_takeNumber_0 N A x0 x1 x2 = some res) : AW l mX6_takeNumber (g_rm 2 0 0) G (g_Qf G (gi res) 0 0) A 0 0 0 [some (va_rf x0), some (.int x1), some (.int x2)] [] := by
  unfold f_X6_takeNumber_0 at h
  refine AW_aload_n dX6_takeNumber_0 rfl ?_
  refine AW_getI (ci := 6) (k0 := 6) (C := RX6) (T := TX6) (N := 8) dX6_takeNumber_1 rfl (gT_u tU_X6) (by decide) (List.mem_cons_of_mem _ tF_X6_102) h (fun v2 _ h => ?_)
  refine AW_iconst (v := 2) dX6_takeNumber_4 (by decide) ?_
  refine AW_icmp_eq (tgt := 14) dX6_takeNumber_5 (by decide) h (fun _ h => ?_) (fun _ h => ?_)
  · refine AW_aload_n dX6_takeNumber_14 rfl ?_
    refine AW_aload_n dX6_takeNumber_15 rfl ?_
    refine AW_callVi (y := yX6_numberRead) (cc := cX6_numberRead) (n := 3) (d := 0) (mc := 0) (ms := 0) (np := 0) (ret := (some .int)) (As := []) (st := [va_rf x0]) (ci := 6) dX6_takeNumber_16 gT_s rfl tM_X6_125 tI_X6_numberRead selp_X6_numberRead tIni_X6 tY_X6_numberRead (by decide +kernel) ⟨by decide, by decide⟩ ⟨by decide, by decide⟩ (Nat.le_of_ble_eq_true rfl) rfl h (fun q hq => c_X6_numberRead N _ _ q hq) (fun q3 _ h => ?_)
    refine AW_put (ci := 6) (k0 := 7) (C := RX6) (T := TX6) (N := 8) (ty0 := tyX6) dX6_takeNumber_19 rfl (gT_u tU_X6) tyX6_ok nmX6 (by decide) (List.mem_cons_of_mem _ tF_X6_58) (Or.inl rfl) rfl rfl h (fun A4 _ h => ?_)
    refine AW_aload_n dX6_takeNumber_22 rfl ?_
    refine AW_getI (ci := 6) (k0 := 7) (C := RX6) (T := TX6) (N := 8) dX6_takeNumber_23 rfl (gT_u tU_X6) (by decide) (List.mem_cons_of_mem _ tF_X6_58) h (fun v5 _ h => ?_)
    refine AW_iload_n dX6_takeNumber_26 rfl ?_
    refine AW_icmp_lt (tgt := 38) dX6_takeNumber_27 (by decide) h (fun _ h => ?_) (fun _ h => ?_)
    · exact AW_fewer (fw_k (fw_d (fw_d fw_n))) (t_X6_takeNumber_38 N _ _ _ h)
    · refine AW_aload_n dX6_takeNumber_30 rfl ?_
      refine AW_getI (ci := 6) (k0 := 7) (C := RX6) (T := TX6) (N := 8) dX6_takeNumber_31 rfl (gT_u tU_X6) (by decide) (List.mem_cons_of_mem _ tF_X6_58) h (fun v6 _ h => ?_)
      refine AW_iload_n dX6_takeNumber_34 rfl ?_
      refine AW_icmp_le (tgt := 44) dX6_takeNumber_35 (by decide) h (fun _ h => ?_) (fun _ h => ?_)
      · refine AW_aload_n dX6_takeNumber_44 rfl ?_
        refine AW_callVu (y := yX6_advance) (cc := cX6_advance) (n := 1) (d := 1) (mc := 0) (ms := 0) (np := 0) (ret := none) (As := []) (st := []) (ci := 6) dX6_takeNumber_45 gT_s rfl tM_X6_27 tI_X6_advance selp_X6_advance tIni_X6 tY_X6_advance (by decide +kernel) ⟨by decide, by decide⟩ ⟨by decide, by decide⟩ (Nat.le_of_ble_eq_true rfl) rfl h (fun q hq => c_X6_advance N _ _ q hq) (fun q7 _ h => ?_)
        refine AW_iconst (v := 1) dX6_takeNumber_48 (by decide) ?_
        exact AW_zret dX6_takeNumber_49 rfl ⟨Nat.zero_le _, Nat.zero_le _⟩ h
      · exact AW_fewer (fw_k (fw_d (fw_d fw_n))) (t_X6_takeNumber_38 N _ _ _ h)
  · refine AW_aload_n dX6_takeNumber_8 rfl ?_
    refine AW_iconst (v := 1) dX6_takeNumber_9 (by decide) ?_
    refine AW_callVi (y := yX6_fail) (cc := cX6_fail) (n := 2) (d := 0) (mc := 0) (ms := 0) (np := 1) (ret := (some .boolean)) (As := [.int (1 : Int32)]) (st := []) (ci := 6) dX6_takeNumber_10 gT_s rfl tM_X6_78 tI_X6_fail selp_X6_fail tIni_X6 tY_X6_fail (by decide +kernel) ⟨by decide, by decide⟩ ⟨by decide, by decide⟩ (Nat.le_of_ble_eq_true rfl) rfl h (fun q hq => c_X6_fail N _ _ _ q hq) (fun q8 _ h => ?_)
    exact AW_zret dX6_takeNumber_13 rfl ⟨Nat.zero_le _, Nat.zero_le _⟩ h
def f_X6_takeNumber (N : Nat) (A : hP) (x0 : Option Nat) (x1 : Int32) (x2 : Int32) : Option (Int32 × hP) := f_X6_takeNumber_0 N A x0 x1 x2
set_option maxRecDepth 20000 in
theorem c_X6_takeNumber {l : Launch} (N : Nat) (A : hP) (x0 : Option Nat) (x1 : Int32) (x2 : Int32) (res : Int32 × hP) (h : f_X6_takeNumber N A x0 x1 x2 = some res) : Ct l mX6_takeNumber 2 0 0 A [va_rf x0, .int x1, .int x2] (gi res) := Ct.of (lv := [(0, va_rf x0), (1, .int x1), (2, .int x2)]) (ls := [some (va_rf x0), some (.int x1), some (.int x2)]) (by decide) (by simp [lv_args, g_cat_rf, cat_i, cat_l]) rfl (by simp [g_cat_rf, cat_i, cat_l]) (fun G => (t_X6_takeNumber_0 N A x0 x1 x2 res h))
abbrev mX6_takeSemicolon : gM := gMk yX6_takeSemicolon cX6_takeSemicolon 1 (some .boolean)
def f_X6_takeSemicolon_0 (N : Nat) (A : hP) (x0 : Option Nat) : Option (Int32 × hP) := (oI A x0 6 6).bind fun v1 => if v1 = (3 : Int32) then ((oCk A x0 6).bind fun _ => (f_X6_advance N A x0).bind fun q2 => if (1 : Int32) = 0 ∨ (1 : Int32) = 1 then some ((1 : Int32), q2.2) else none) else ((oCk A x0 6).bind fun _ => (f_X6_fail N A x0 (1 : Int32)).bind fun q3 => if q3.1 = 0 ∨ q3.1 = 1 then some (q3.1, q3.2) else none)
set_option maxRecDepth 20000 in
set_option maxHeartbeats 4000000 in
theorem t_X6_takeSemicolon_0 {l : Launch} {G : gS} (N : Nat) (A : hP) (x0 : Option Nat) (res : Int32 × hP) (h : f_X6_takeSemicolon_0 N A x0 = some res) : AW l mX6_takeSemicolon (g_rm 2 0 0) G (g_Qf G (gi res) 0 0) A 0 0 0 [some (va_rf x0)] [] := by
  unfold f_X6_takeSemicolon_0 at h
  refine AW_aload_n dX6_takeSemicolon_0 rfl ?_
  refine AW_getI (ci := 6) (k0 := 6) (C := RX6) (T := TX6) (N := 8) dX6_takeSemicolon_1 rfl (gT_u tU_X6) (by decide) (List.mem_cons_of_mem _ tF_X6_102) h (fun v1 _ h => ?_)
  refine AW_iconst (v := 3) dX6_takeSemicolon_4 (by decide) ?_
  refine AW_icmp_eq (tgt := 14) dX6_takeSemicolon_5 (by decide) h (fun _ h => ?_) (fun _ h => ?_)
  · refine AW_aload_n dX6_takeSemicolon_14 rfl ?_
    refine AW_callVu (y := yX6_advance) (cc := cX6_advance) (n := 1) (d := 1) (mc := 0) (ms := 0) (np := 0) (ret := none) (As := []) (st := []) (ci := 6) dX6_takeSemicolon_15 gT_s rfl tM_X6_27 tI_X6_advance selp_X6_advance tIni_X6 tY_X6_advance (by decide +kernel) ⟨by decide, by decide⟩ ⟨by decide, by decide⟩ (Nat.le_of_ble_eq_true rfl) rfl h (fun q hq => c_X6_advance N _ _ q hq) (fun q2 _ h => ?_)
    refine AW_iconst (v := 1) dX6_takeSemicolon_18 (by decide) ?_
    exact AW_zret dX6_takeSemicolon_19 rfl ⟨Nat.zero_le _, Nat.zero_le _⟩ h
  · refine AW_aload_n dX6_takeSemicolon_8 rfl ?_
    refine AW_iconst (v := 1) dX6_takeSemicolon_9 (by decide) ?_
    refine AW_callVi (y := yX6_fail) (cc := cX6_fail) (n := 2) (d := 0) (mc := 0) (ms := 0) (np := 1) (ret := (some .boolean)) (As := [.int (1 : Int32)]) (st := []) (ci := 6) dX6_takeSemicolon_10 gT_s rfl tM_X6_78 tI_X6_fail selp_X6_fail tIni_X6 tY_X6_fail (by decide +kernel) ⟨by decide, by decide⟩ ⟨by decide, by decide⟩ (Nat.le_of_ble_eq_true rfl) rfl h (fun q hq => c_X6_fail N _ _ _ q hq) (fun q3 _ h => ?_)
    exact AW_zret dX6_takeSemicolon_13 rfl ⟨Nat.zero_le _, Nat.zero_le _⟩ h
def f_X6_takeSemicolon (N : Nat) (A : hP) (x0 : Option Nat) : Option (Int32 × hP) := f_X6_takeSemicolon_0 N A x0
set_option maxRecDepth 20000 in
theorem c_X6_takeSemicolon {l : Launch} (N : Nat) (A : hP) (x0 : Option Nat) (res : Int32 × hP) (h : f_X6_takeSemicolon N A x0 = some res) : Ct l mX6_takeSemicolon 2 0 0 A [va_rf x0] (gi res) := Ct.of (lv := [(0, va_rf x0)]) (ls := [some (va_rf x0)]) (by decide) (by simp [lv_args, g_cat_rf, cat_i, cat_l]) rfl (by simp [g_cat_rf, cat_i, cat_l]) (fun G => (t_X6_takeSemicolon_0 N A x0 res h))
abbrev mX6_readLaw : gM := gMk yX6_readLaw cX6_readLaw 2 (some .boolean)
def f_X6_readLaw_18 (N : Nat) (A : hP) : Option (Int32 × hP) := if (0 : Int32) = 0 ∨ (0 : Int32) = 1 then some ((0 : Int32), A) else none
set_option maxRecDepth 20000 in
set_option maxHeartbeats 4000000 in
theorem t_X6_readLaw_18 {l : Launch} {G : gS} (N : Nat) (A : hP) (res : Int32 × hP) (h : f_X6_readLaw_18 N A  = some res) : AW l mX6_readLaw (g_rm 6 0 0) G (g_Qf G (gi res) 0 0) A 0 0 18 [none, none] [] := by
  unfold f_X6_readLaw_18 at h
  refine AW_iconst (v := 0) dX6_readLaw_18 (by decide) ?_
  exact AW_zret dX6_readLaw_19 rfl ⟨Nat.zero_le _, Nat.zero_le _⟩ h
def f_X6_readLaw_0 (N : Nat) (A : hP) (x0 : Option Nat) (x1 : Option Nat) : Option (Int32 × hP) := (oCk A x0 6).bind fun _ => (f_X6_takeWord N A x0 (some 1000000)).bind fun q1 => if q1.1 = (0) then (f_X6_readLaw_18 N q1.2) else ((oCk q1.2 x0 6).bind fun _ => (f_X6_takeNumber N q1.2 x0 (0 : Int32) (3 : Int32)).bind fun q2 => if q2.1 = (0) then (f_X6_readLaw_18 N q2.2) else ((oI q2.2 x0 6 7).bind fun v3 => (oP q2.2 x1 2 1 (.int v3)).bind fun A4 => (oCk A4 x0 6).bind fun _ => (f_X6_takeNumber N A4 x0 (0 : Int32) (1 : Int32)).bind fun q5 => if q5.1 = (0) then (if (0 : Int32) = 0 ∨ (0 : Int32) = 1 then some ((0 : Int32), q5.2) else none) else ((oI q5.2 x0 6 7).bind fun v6 => (oP q5.2 x1 2 2 (.int v6)).bind fun A7 => (oCk A7 x0 6).bind fun _ => (f_X6_takeNumber N A7 x0 (2 : Int32) (200 : Int32)).bind fun q8 => if q8.1 = (0) then (if (0 : Int32) = 0 ∨ (0 : Int32) = 1 then some ((0 : Int32), q8.2) else none) else ((oI q8.2 x0 6 7).bind fun v9 => (oP q8.2 x1 2 3 (.int v9)).bind fun A10 => (oCk A10 x0 6).bind fun _ => (f_X6_takeSemicolon N A10 x0).bind fun q11 => if q11.1 = 0 ∨ q11.1 = 1 then some (q11.1, q11.2) else none))))
set_option maxRecDepth 20000 in
set_option maxHeartbeats 4000000 in
theorem t_X6_readLaw_0 {l : Launch} {G : gS} (N : Nat) (A : hP) (x0 : Option Nat) (x1 : Option Nat) (res : Int32 × hP) (h : f_X6_readLaw_0 N A x0 x1 = some res) : AW l mX6_readLaw (g_rm 6 0 0) G (g_Qf G (gi res) 0 0) A 0 0 0 [some (va_rf x0), some (va_rf x1)] [] := by
  unfold f_X6_readLaw_0 at h
  refine AW_aload_n dX6_readLaw_0 rfl ?_
  refine AW_ldcs (j := 0) rfl dX6_readLaw_1 rfl ?_
  refine AW_callVi (y := yX6_takeWord) (cc := cX6_takeWord) (n := 2) (d := 5) (mc := 0) (ms := 0) (np := 1) (ret := (some .boolean)) (As := [va_rf (some 1000000)]) (st := []) (ci := 6) dX6_readLaw_3 gT_s rfl tM_X6_50 tI_X6_takeWord selp_X6_takeWord tIni_X6 tY_X6_takeWord (by decide +kernel) ⟨by decide, by decide⟩ ⟨by decide, by decide⟩ (Nat.le_of_ble_eq_true rfl) rfl h (fun q hq => c_X6_takeWord N _ _ _ q hq) (fun q1 _ h => ?_)
  refine AW_if_eq (tgt := 18) dX6_readLaw_6 (by decide) h (fun _ h => ?_) (fun _ h => ?_)
  · exact AW_fewer (fw_d (fw_d fw_n)) (t_X6_readLaw_18 N _ _ h)
  · refine AW_aload_n dX6_readLaw_9 rfl ?_
    refine AW_iconst (v := 0) dX6_readLaw_10 (by decide) ?_
    refine AW_iconst (v := 3) dX6_readLaw_11 (by decide) ?_
    refine AW_callVi (y := yX6_takeNumber) (cc := cX6_takeNumber) (n := 3) (d := 2) (mc := 0) (ms := 0) (np := 2) (ret := (some .boolean)) (As := [.int (0 : Int32), .int (3 : Int32)]) (st := []) (ci := 6) dX6_readLaw_12 gT_s rfl tM_X6_54 tI_X6_takeNumber selp_X6_takeNumber tIni_X6 tY_X6_takeNumber (by decide +kernel) ⟨by decide, by decide⟩ ⟨by decide, by decide⟩ (Nat.le_of_ble_eq_true rfl) rfl h (fun q hq => c_X6_takeNumber N _ _ _ _ q hq) (fun q2 _ h => ?_)
    refine AW_if_ne (tgt := 20) dX6_readLaw_15 (by decide) h (fun _ h => ?_) (fun _ h => ?_)
    · refine AW_aload_n dX6_readLaw_20 rfl ?_
      refine AW_aload_n dX6_readLaw_21 rfl ?_
      refine AW_getI (ci := 6) (k0 := 7) (C := RX6) (T := TX6) (N := 8) dX6_readLaw_22 rfl (gT_u tU_X6) (by decide) (List.mem_cons_of_mem _ tF_X6_58) h (fun v3 _ h => ?_)
      refine AW_put (ci := 2) (k0 := 1) (C := RX2) (T := TX2) (N := 11) (ty0 := tyX2) dX6_readLaw_25 rfl (gT_u tU_X2) tyX2_ok nmX2 (by decide) (List.mem_cons_of_mem _ tF_X6_61) (Or.inl rfl) rfl rfl h (fun A4 _ h => ?_)
      refine AW_aload_n dX6_readLaw_28 rfl ?_
      refine AW_iconst (v := 0) dX6_readLaw_29 (by decide) ?_
      refine AW_iconst (v := 1) dX6_readLaw_30 (by decide) ?_
      refine AW_callVi (y := yX6_takeNumber) (cc := cX6_takeNumber) (n := 3) (d := 2) (mc := 0) (ms := 0) (np := 2) (ret := (some .boolean)) (As := [.int (0 : Int32), .int (1 : Int32)]) (st := []) (ci := 6) dX6_readLaw_31 gT_s rfl tM_X6_54 tI_X6_takeNumber selp_X6_takeNumber tIni_X6 tY_X6_takeNumber (by decide +kernel) ⟨by decide, by decide⟩ ⟨by decide, by decide⟩ (Nat.le_of_ble_eq_true rfl) rfl h (fun q hq => c_X6_takeNumber N _ _ _ _ q hq) (fun q5 _ h => ?_)
      refine AW_if_ne (tgt := 39) dX6_readLaw_34 (by decide) h (fun _ h => ?_) (fun _ h => ?_)
      · refine AW_aload_n dX6_readLaw_39 rfl ?_
        refine AW_aload_n dX6_readLaw_40 rfl ?_
        refine AW_getI (ci := 6) (k0 := 7) (C := RX6) (T := TX6) (N := 8) dX6_readLaw_41 rfl (gT_u tU_X6) (by decide) (List.mem_cons_of_mem _ tF_X6_58) h (fun v6 _ h => ?_)
        refine AW_put (ci := 2) (k0 := 2) (C := RX2) (T := TX2) (N := 11) (ty0 := tyX2) dX6_readLaw_44 rfl (gT_u tU_X2) tyX2_ok nmX2 (by decide) (List.mem_cons_of_mem _ tF_X6_64) (Or.inl rfl) rfl rfl h (fun A7 _ h => ?_)
        refine AW_aload_n dX6_readLaw_47 rfl ?_
        refine AW_iconst (v := 2) dX6_readLaw_48 (by decide) ?_
        refine AW_sipush (v := 200) dX6_readLaw_49 (by decide) ?_
        refine AW_callVi (y := yX6_takeNumber) (cc := cX6_takeNumber) (n := 3) (d := 2) (mc := 0) (ms := 0) (np := 2) (ret := (some .boolean)) (As := [.int (2 : Int32), .int (200 : Int32)]) (st := []) (ci := 6) dX6_readLaw_52 gT_s rfl tM_X6_54 tI_X6_takeNumber selp_X6_takeNumber tIni_X6 tY_X6_takeNumber (by decide +kernel) ⟨by decide, by decide⟩ ⟨by decide, by decide⟩ (Nat.le_of_ble_eq_true rfl) rfl h (fun q hq => c_X6_takeNumber N _ _ _ _ q hq) (fun q8 _ h => ?_)
        refine AW_if_ne (tgt := 60) dX6_readLaw_55 (by decide) h (fun _ h => ?_) (fun _ h => ?_)
        · refine AW_aload_n dX6_readLaw_60 rfl ?_
          refine AW_aload_n dX6_readLaw_61 rfl ?_
          refine AW_getI (ci := 6) (k0 := 7) (C := RX6) (T := TX6) (N := 8) dX6_readLaw_62 rfl (gT_u tU_X6) (by decide) (List.mem_cons_of_mem _ tF_X6_58) h (fun v9 _ h => ?_)
          refine AW_put (ci := 2) (k0 := 3) (C := RX2) (T := TX2) (N := 11) (ty0 := tyX2) dX6_readLaw_65 rfl (gT_u tU_X2) tyX2_ok nmX2 (by decide) (List.mem_cons_of_mem _ tF_X6_67) (Or.inl rfl) rfl rfl h (fun A10 _ h => ?_)
          refine AW_aload_n dX6_readLaw_68 rfl ?_
          refine AW_callVi (y := yX6_takeSemicolon) (cc := cX6_takeSemicolon) (n := 1) (d := 2) (mc := 0) (ms := 0) (np := 0) (ret := (some .boolean)) (As := []) (st := []) (ci := 6) dX6_readLaw_69 gT_s rfl tM_X6_70 tI_X6_takeSemicolon selp_X6_takeSemicolon tIni_X6 tY_X6_takeSemicolon (by decide +kernel) ⟨by decide, by decide⟩ ⟨by decide, by decide⟩ (Nat.le_of_ble_eq_true rfl) rfl h (fun q hq => c_X6_takeSemicolon N _ _ q hq) (fun q11 _ h => ?_)
          exact AW_zret dX6_readLaw_72 rfl ⟨Nat.zero_le _, Nat.zero_le _⟩ h
        · refine AW_iconst (v := 0) dX6_readLaw_58 (by decide) ?_
          exact AW_zret dX6_readLaw_59 rfl ⟨Nat.zero_le _, Nat.zero_le _⟩ h
      · refine AW_iconst (v := 0) dX6_readLaw_37 (by decide) ?_
        exact AW_zret dX6_readLaw_38 rfl ⟨Nat.zero_le _, Nat.zero_le _⟩ h
    · exact AW_fewer (fw_d (fw_d fw_n)) (t_X6_readLaw_18 N _ _ h)
def f_X6_readLaw (N : Nat) (A : hP) (x0 : Option Nat) (x1 : Option Nat) : Option (Int32 × hP) := f_X6_readLaw_0 N A x0 x1
set_option maxRecDepth 20000 in
theorem c_X6_readLaw {l : Launch} (N : Nat) (A : hP) (x0 : Option Nat) (x1 : Option Nat) (res : Int32 × hP) (h : f_X6_readLaw N A x0 x1 = some res) : Ct l mX6_readLaw 6 0 0 A [va_rf x0, va_rf x1] (gi res) := Ct.of (lv := [(0, va_rf x0), (1, va_rf x1)]) (ls := [some (va_rf x0), some (va_rf x1)]) (by decide) (by simp [lv_args, g_cat_rf, cat_i, cat_l]) rfl (by simp [g_cat_rf, cat_i, cat_l]) (fun G => (t_X6_readLaw_0 N A x0 x1 res h))
abbrev mX6_sortNamed : gM := gMk yX6_sortNamed cX6_sortNamed 1 (some .int)
def f_X6_sortNamed_58 (N : Nat) (A : hP) (s0 : Int32) : Option (Int32 × hP) := some (s0, A)
set_option maxRecDepth 20000 in
set_option maxHeartbeats 4000000 in
theorem t_X6_sortNamed_58 {l : Launch} {G : gS} (N : Nat) (A : hP) (s0 : Int32) (res : Int32 × hP) (h : f_X6_sortNamed_58 N A s0 = some res) : AW l mX6_sortNamed (g_rm 5 0 0) G (g_Qf G (gi res) 0 0) A 0 0 58 [none] [.int s0] := by
  unfold f_X6_sortNamed_58 at h
  exact AW_iret dX6_sortNamed_58 rfl ⟨Nat.zero_le _, Nat.zero_le _⟩ h
def f_X6_sortNamed_0 (N : Nat) (A : hP) (x0 : Option Nat) : Option (Int32 × hP) := (oCk A x0 6).bind fun _ => (f_X6_isWord N A x0 (some 1000002)).bind fun q1 => if q1.1 = (0) then ((oCk q1.2 x0 6).bind fun _ => (f_X6_isWord N q1.2 x0 (some 1000003)).bind fun q2 => if q2.1 = (0) then ((oCk q2.2 x0 6).bind fun _ => (f_X6_isWord N q2.2 x0 (some 1000004)).bind fun q3 => if q3.1 = (0) then ((oCk q3.2 x0 6).bind fun _ => (f_X6_isWord N q3.2 x0 (some 1000005)).bind fun q4 => if q4.1 = (0) then ((oCk q4.2 x0 6).bind fun _ => (f_X6_isWord N q4.2 x0 (some 1000006)).bind fun q5 => if q5.1 = (0) then (f_X6_sortNamed_58 N q5.2 (0 : Int32)) else (f_X6_sortNamed_58 N q5.2 (5 : Int32))) else (some ((4 : Int32), q4.2))) else (some ((3 : Int32), q3.2))) else (some ((2 : Int32), q2.2))) else (some ((1 : Int32), q1.2))
set_option maxRecDepth 20000 in
set_option maxHeartbeats 4000000 in
theorem t_X6_sortNamed_0 {l : Launch} {G : gS} (N : Nat) (A : hP) (x0 : Option Nat) (res : Int32 × hP) (h : f_X6_sortNamed_0 N A x0 = some res) : AW l mX6_sortNamed (g_rm 5 0 0) G (g_Qf G (gi res) 0 0) A 0 0 0 [some (va_rf x0)] [] := by
  unfold f_X6_sortNamed_0 at h
  refine AW_aload_n dX6_sortNamed_0 rfl ?_
  refine AW_ldcs (j := 2) rfl dX6_sortNamed_1 rfl ?_
  refine AW_callVi (y := yX6_isWord) (cc := cX6_isWord) (n := 3) (d := 4) (mc := 0) (ms := 0) (np := 1) (ret := (some .boolean)) (As := [va_rf (some 1000002)]) (st := []) (ci := 6) dX6_sortNamed_3 gT_s rfl tM_X6_75 tI_X6_isWord selp_X6_isWord tIni_X6 tY_X6_isWord (by decide +kernel) ⟨by decide, by decide⟩ ⟨by decide, by decide⟩ (Nat.le_of_ble_eq_true rfl) rfl h (fun q hq => c_X6_isWord N _ _ _ q hq) (fun q1 _ h => ?_)
  refine AW_if_eq (tgt := 11) dX6_sortNamed_6 (by decide) h (fun _ h => ?_) (fun _ h => ?_)
  · refine AW_aload_n dX6_sortNamed_11 rfl ?_
    refine AW_ldcs (j := 3) rfl dX6_sortNamed_12 rfl ?_
    refine AW_callVi (y := yX6_isWord) (cc := cX6_isWord) (n := 3) (d := 4) (mc := 0) (ms := 0) (np := 1) (ret := (some .boolean)) (As := [va_rf (some 1000003)]) (st := []) (ci := 6) dX6_sortNamed_14 gT_s rfl tM_X6_75 tI_X6_isWord selp_X6_isWord tIni_X6 tY_X6_isWord (by decide +kernel) ⟨by decide, by decide⟩ ⟨by decide, by decide⟩ (Nat.le_of_ble_eq_true rfl) rfl h (fun q hq => c_X6_isWord N _ _ _ q hq) (fun q2 _ h => ?_)
    refine AW_if_eq (tgt := 22) dX6_sortNamed_17 (by decide) h (fun _ h => ?_) (fun _ h => ?_)
    · refine AW_aload_n dX6_sortNamed_22 rfl ?_
      refine AW_ldcs (j := 4) rfl dX6_sortNamed_23 rfl ?_
      refine AW_callVi (y := yX6_isWord) (cc := cX6_isWord) (n := 3) (d := 4) (mc := 0) (ms := 0) (np := 1) (ret := (some .boolean)) (As := [va_rf (some 1000004)]) (st := []) (ci := 6) dX6_sortNamed_25 gT_s rfl tM_X6_75 tI_X6_isWord selp_X6_isWord tIni_X6 tY_X6_isWord (by decide +kernel) ⟨by decide, by decide⟩ ⟨by decide, by decide⟩ (Nat.le_of_ble_eq_true rfl) rfl h (fun q hq => c_X6_isWord N _ _ _ q hq) (fun q3 _ h => ?_)
      refine AW_if_eq (tgt := 33) dX6_sortNamed_28 (by decide) h (fun _ h => ?_) (fun _ h => ?_)
      · refine AW_aload_n dX6_sortNamed_33 rfl ?_
        refine AW_ldcs (j := 5) rfl dX6_sortNamed_34 rfl ?_
        refine AW_callVi (y := yX6_isWord) (cc := cX6_isWord) (n := 3) (d := 4) (mc := 0) (ms := 0) (np := 1) (ret := (some .boolean)) (As := [va_rf (some 1000005)]) (st := []) (ci := 6) dX6_sortNamed_36 gT_s rfl tM_X6_75 tI_X6_isWord selp_X6_isWord tIni_X6 tY_X6_isWord (by decide +kernel) ⟨by decide, by decide⟩ ⟨by decide, by decide⟩ (Nat.le_of_ble_eq_true rfl) rfl h (fun q hq => c_X6_isWord N _ _ _ q hq) (fun q4 _ h => ?_)
        refine AW_if_eq (tgt := 44) dX6_sortNamed_39 (by decide) h (fun _ h => ?_) (fun _ h => ?_)
        · refine AW_aload_n dX6_sortNamed_44 rfl ?_
          refine AW_ldcs (j := 6) rfl dX6_sortNamed_45 rfl ?_
          refine AW_callVi (y := yX6_isWord) (cc := cX6_isWord) (n := 3) (d := 4) (mc := 0) (ms := 0) (np := 1) (ret := (some .boolean)) (As := [va_rf (some 1000006)]) (st := []) (ci := 6) dX6_sortNamed_47 gT_s rfl tM_X6_75 tI_X6_isWord selp_X6_isWord tIni_X6 tY_X6_isWord (by decide +kernel) ⟨by decide, by decide⟩ ⟨by decide, by decide⟩ (Nat.le_of_ble_eq_true rfl) rfl h (fun q hq => c_X6_isWord N _ _ _ q hq) (fun q5 _ h => ?_)
          refine AW_if_eq (tgt := 57) dX6_sortNamed_50 (by decide) h (fun _ h => ?_) (fun _ h => ?_)
          · refine AW_iconst (v := 0) dX6_sortNamed_57 (by decide) ?_
            exact AW_fewer (fw_d fw_n) (t_X6_sortNamed_58 N _ _ _ h)
          · refine AW_iconst (v := 5) dX6_sortNamed_53 (by decide) ?_
            refine AW_goto (tgt := 58) dX6_sortNamed_54 (by decide) ?_
            exact AW_fewer (fw_d fw_n) (t_X6_sortNamed_58 N _ _ _ h)
        · refine AW_iconst (v := 4) dX6_sortNamed_42 (by decide) ?_
          exact AW_iret dX6_sortNamed_43 rfl ⟨Nat.zero_le _, Nat.zero_le _⟩ h
      · refine AW_iconst (v := 3) dX6_sortNamed_31 (by decide) ?_
        exact AW_iret dX6_sortNamed_32 rfl ⟨Nat.zero_le _, Nat.zero_le _⟩ h
    · refine AW_iconst (v := 2) dX6_sortNamed_20 (by decide) ?_
      exact AW_iret dX6_sortNamed_21 rfl ⟨Nat.zero_le _, Nat.zero_le _⟩ h
  · refine AW_iconst (v := 1) dX6_sortNamed_9 (by decide) ?_
    exact AW_iret dX6_sortNamed_10 rfl ⟨Nat.zero_le _, Nat.zero_le _⟩ h
def f_X6_sortNamed (N : Nat) (A : hP) (x0 : Option Nat) : Option (Int32 × hP) := f_X6_sortNamed_0 N A x0
set_option maxRecDepth 20000 in
theorem c_X6_sortNamed {l : Launch} (N : Nat) (A : hP) (x0 : Option Nat) (res : Int32 × hP) (h : f_X6_sortNamed N A x0 = some res) : Ct l mX6_sortNamed 5 0 0 A [va_rf x0] (gi res) := Ct.of (lv := [(0, va_rf x0)]) (ls := [some (va_rf x0)]) (by decide) (by simp [lv_args, g_cat_rf, cat_i, cat_l]) rfl (by simp [g_cat_rf, cat_i, cat_l]) (fun G => (t_X6_sortNamed_0 N A x0 res h))
abbrev mX6_readThing : gM := gMk yX6_readThing cX6_readThing 3 (some .boolean)
def f_X6_readThing_0 (N : Nat) (A : hP) (x0 : Option Nat) (x1 : Option Nat) : Option (Int32 × hP) := (oCk A x0 6).bind fun _ => (f_X6_sortNamed N A x0).bind fun q1 => if q1.1 = (0) then ((oCk q1.2 x0 6).bind fun _ => (f_X6_fail N q1.2 x0 (1 : Int32)).bind fun q7 => if q7.1 = 0 ∨ q7.1 = 1 then some (q7.1, q7.2) else none) else ((oCk q1.2 x0 6).bind fun _ => (f_X6_advance N q1.2 x0).bind fun q2 => (oCk q2.2 x0 6).bind fun _ => (f_X6_takeNumber N q2.2 x0 (0 : Int32) (7 : Int32)).bind fun q3 => if q3.1 = (0) then (if (0 : Int32) = 0 ∨ (0 : Int32) = 1 then some ((0 : Int32), q3.2) else none) else ((oI q3.2 x0 6 7).bind fun v4 => (oCk q3.2 x1 2).bind fun _ => (f_X2_addThing N q3.2 x1 q1.1 v4).bind fun q5 => (oCk q5.2 x0 6).bind fun _ => (f_X6_takeSemicolon N q5.2 x0).bind fun q6 => if q6.1 = 0 ∨ q6.1 = 1 then some (q6.1, q6.2) else none))
set_option maxRecDepth 20000 in
set_option maxHeartbeats 4000000 in
theorem t_X6_readThing_0 {l : Launch} {G : gS} (N : Nat) (A : hP) (x0 : Option Nat) (x1 : Option Nat) (res : Int32 × hP) (h : f_X6_readThing_0 N A x0 x1 = some res) : AW l mX6_readThing (g_rm 6 0 0) G (g_Qf G (gi res) 0 0) A 0 0 0 [some (va_rf x0), some (va_rf x1), none] [] := by
  unfold f_X6_readThing_0 at h
  refine AW_aload_n dX6_readThing_0 rfl ?_
  refine AW_callVi (y := yX6_sortNamed) (cc := cX6_sortNamed) (n := 1) (d := 5) (mc := 0) (ms := 0) (np := 0) (ret := (some .int)) (As := []) (st := []) (ci := 6) dX6_readThing_1 gT_s rfl tM_X6_85 tI_X6_sortNamed selp_X6_sortNamed tIni_X6 tY_X6_sortNamed (by decide +kernel) ⟨by decide, by decide⟩ ⟨by decide, by decide⟩ (Nat.le_of_ble_eq_true rfl) rfl h (fun q hq => c_X6_sortNamed N _ _ q hq) (fun q1 _ h => ?_)
  refine AW_istore_n (ls' := [some (va_rf x0), some (va_rf x1), some (.int q1.1)]) dX6_readThing_4 (c1_r rfl) (by decide) rfl ?_
  refine AW_iload_n dX6_readThing_5 rfl ?_
  refine AW_if_ne (tgt := 15) dX6_readThing_6 (by decide) h (fun _ h => ?_) (fun _ h => ?_)
  · refine AW_aload_n dX6_readThing_15 rfl ?_
    refine AW_callVu (y := yX6_advance) (cc := cX6_advance) (n := 1) (d := 1) (mc := 0) (ms := 0) (np := 0) (ret := none) (As := []) (st := []) (ci := 6) dX6_readThing_16 gT_s rfl tM_X6_27 tI_X6_advance selp_X6_advance tIni_X6 tY_X6_advance (by decide +kernel) ⟨by decide, by decide⟩ ⟨by decide, by decide⟩ (Nat.le_of_ble_eq_true rfl) rfl h (fun q hq => c_X6_advance N _ _ q hq) (fun q2 _ h => ?_)
    refine AW_aload_n dX6_readThing_19 rfl ?_
    refine AW_iconst (v := 0) dX6_readThing_20 (by decide) ?_
    refine AW_bipush (v := 7) dX6_readThing_21 (by decide) ?_
    refine AW_callVi (y := yX6_takeNumber) (cc := cX6_takeNumber) (n := 3) (d := 2) (mc := 0) (ms := 0) (np := 2) (ret := (some .boolean)) (As := [.int (0 : Int32), .int (7 : Int32)]) (st := []) (ci := 6) dX6_readThing_23 gT_s rfl tM_X6_54 tI_X6_takeNumber selp_X6_takeNumber tIni_X6 tY_X6_takeNumber (by decide +kernel) ⟨by decide, by decide⟩ ⟨by decide, by decide⟩ (Nat.le_of_ble_eq_true rfl) rfl h (fun q hq => c_X6_takeNumber N _ _ _ _ q hq) (fun q3 _ h => ?_)
    refine AW_if_ne (tgt := 31) dX6_readThing_26 (by decide) h (fun _ h => ?_) (fun _ h => ?_)
    · refine AW_aload_n dX6_readThing_31 rfl ?_
      refine AW_iload_n dX6_readThing_32 rfl ?_
      refine AW_aload_n dX6_readThing_33 rfl ?_
      refine AW_getI (ci := 6) (k0 := 7) (C := RX6) (T := TX6) (N := 8) dX6_readThing_34 rfl (gT_u tU_X6) (by decide) (List.mem_cons_of_mem _ tF_X6_58) h (fun v4 _ h => ?_)
      refine AW_callVu (y := yX2_addThing) (cc := cX2_addThing) (n := 3) (d := 0) (mc := 0) (ms := 0) (np := 2) (ret := none) (As := [.int q1.1, .int v4]) (st := []) (ci := 2) dX6_readThing_37 gT_s rfl tM_X6_89 tI_X2_addThing tSel_X2_X2_X2_addThing tIni_X2 tY_X2_addThing (by decide +kernel) ⟨by decide, by decide⟩ ⟨by decide, by decide⟩ (Nat.le_of_ble_eq_true rfl) rfl h (fun q hq => c_X2_addThing N _ _ _ _ q hq) (fun q5 _ h => ?_)
      refine AW_aload_n dX6_readThing_40 rfl ?_
      refine AW_callVi (y := yX6_takeSemicolon) (cc := cX6_takeSemicolon) (n := 1) (d := 2) (mc := 0) (ms := 0) (np := 0) (ret := (some .boolean)) (As := []) (st := []) (ci := 6) dX6_readThing_41 gT_s rfl tM_X6_70 tI_X6_takeSemicolon selp_X6_takeSemicolon tIni_X6 tY_X6_takeSemicolon (by decide +kernel) ⟨by decide, by decide⟩ ⟨by decide, by decide⟩ (Nat.le_of_ble_eq_true rfl) rfl h (fun q hq => c_X6_takeSemicolon N _ _ q hq) (fun q6 _ h => ?_)
      exact AW_zret dX6_readThing_44 rfl ⟨Nat.zero_le _, Nat.zero_le _⟩ h
    · refine AW_iconst (v := 0) dX6_readThing_29 (by decide) ?_
      exact AW_zret dX6_readThing_30 rfl ⟨Nat.zero_le _, Nat.zero_le _⟩ h
  · refine AW_aload_n dX6_readThing_9 rfl ?_
    refine AW_iconst (v := 1) dX6_readThing_10 (by decide) ?_
    refine AW_callVi (y := yX6_fail) (cc := cX6_fail) (n := 2) (d := 0) (mc := 0) (ms := 0) (np := 1) (ret := (some .boolean)) (As := [.int (1 : Int32)]) (st := []) (ci := 6) dX6_readThing_11 gT_s rfl tM_X6_78 tI_X6_fail selp_X6_fail tIni_X6 tY_X6_fail (by decide +kernel) ⟨by decide, by decide⟩ ⟨by decide, by decide⟩ (Nat.le_of_ble_eq_true rfl) rfl h (fun q hq => c_X6_fail N _ _ _ q hq) (fun q7 _ h => ?_)
    exact AW_zret dX6_readThing_14 rfl ⟨Nat.zero_le _, Nat.zero_le _⟩ h
def f_X6_readThing (N : Nat) (A : hP) (x0 : Option Nat) (x1 : Option Nat) : Option (Int32 × hP) := f_X6_readThing_0 N A x0 x1
set_option maxRecDepth 20000 in
theorem c_X6_readThing {l : Launch} (N : Nat) (A : hP) (x0 : Option Nat) (x1 : Option Nat) (res : Int32 × hP) (h : f_X6_readThing N A x0 x1 = some res) : Ct l mX6_readThing 6 0 0 A [va_rf x0, va_rf x1] (gi res) := Ct.of (lv := [(0, va_rf x0), (1, va_rf x1)]) (ls := [some (va_rf x0), some (va_rf x1), none]) (by decide) (by simp [lv_args, g_cat_rf, cat_i, cat_l]) rfl (by simp [g_cat_rf, cat_i, cat_l]) (fun G => (t_X6_readThing_0 N A x0 x1 res h))
abbrev mX6_readThings : gM := gMk yX6_readThings cX6_readThings 3 (some .boolean)
def f_X6_readThings_47 (N : Nat) (A : hP) : Option (Int32 × hP) := if (1 : Int32) = 0 ∨ (1 : Int32) = 1 then some ((1 : Int32), A) else none
set_option maxRecDepth 20000 in
set_option maxHeartbeats 4000000 in
theorem t_X6_readThings_47 {l : Launch} {G : gS} (N : Nat) (A : hP) (res : Int32 × hP) (h : f_X6_readThings_47 N A  = some res) : AW l mX6_readThings (g_rm 7 0 0) G (g_Qf G (gi res) 0 0) A 0 0 47 [none, none, none] [] := by
  unfold f_X6_readThings_47 at h
  refine AW_iconst (v := 1) dX6_readThings_47 (by decide) ?_
  exact AW_zret dX6_readThings_48 rfl ⟨Nat.zero_le _, Nat.zero_le _⟩ h
def f_X6_readThings_2 (N : Nat) : Nat → hP → Option Nat → Option Nat → Int32 → Option (Int32 × hP)
  | 0, _, _, _, _ => none
  | n + 1, A, x0, x1, x2 => if (4 : Int32) < x2 then (f_X6_readThings_47 N A) else ((oCk A x0 6).bind fun _ => (f_X6_isWord N A x0 (some 1000001)).bind fun q1 => if q1.1 = (0) then (f_X6_readThings_47 N q1.2) else (if x2 = (4 : Int32) then ((oCk q1.2 x0 6).bind fun _ => (f_X6_fail N q1.2 x0 (3 : Int32)).bind fun q4 => if q4.1 = 0 ∨ q4.1 = 1 then some (q4.1, q4.2) else none) else ((oCk q1.2 x0 6).bind fun _ => (f_X6_advance N q1.2 x0).bind fun q2 => (oCk q2.2 x0 6).bind fun _ => (f_X6_readThing N q2.2 x0 x1).bind fun q3 => if q3.1 = (0) then (if (0 : Int32) = 0 ∨ (0 : Int32) = 1 then some ((0 : Int32), q3.2) else none) else (f_X6_readThings_2 N n q3.2 x0 x1 (x2 + (1 : Int32))))))
set_option maxRecDepth 20000 in
set_option maxHeartbeats 4000000 in
theorem t_X6_readThings_2 {l : Launch} {G : gS} (N : Nat) : ∀ (n : Nat) (A : hP) (x0 : Option Nat) (x1 : Option Nat) (x2 : Int32) (res : Int32 × hP), f_X6_readThings_2 N n A x0 x1 x2 = some res → AW l mX6_readThings (g_rm 7 0 0) G (g_Qf G (gi res) 0 0) A 0 0 2 [some (va_rf x0), some (va_rf x1), some (.int x2)] [] := by
  intro n
  induction n with
  | zero => intro A x0 x1 x2 res h; cases h
  | succ n ih =>
    intro A x0 x1 x2 res h
    rw [f_X6_readThings_2] at h
    refine AW_iload_n dX6_readThings_2 rfl ?_
    refine AW_iconst (v := 4) dX6_readThings_3 (by decide) ?_
    refine AW_icmp_gt (tgt := 47) dX6_readThings_4 (by decide) h (fun _ h => ?_) (fun _ h => ?_)
    · exact AW_fewer (fw_d (fw_d (fw_d fw_n))) (t_X6_readThings_47 N _ _ h)
    · refine AW_aload_n dX6_readThings_7 rfl ?_
      refine AW_ldcs (j := 1) rfl dX6_readThings_8 rfl ?_
      refine AW_callVi (y := yX6_isWord) (cc := cX6_isWord) (n := 3) (d := 4) (mc := 0) (ms := 0) (np := 1) (ret := (some .boolean)) (As := [va_rf (some 1000001)]) (st := []) (ci := 6) dX6_readThings_10 gT_s rfl tM_X6_75 tI_X6_isWord selp_X6_isWord tIni_X6 tY_X6_isWord (by decide +kernel) ⟨by decide, by decide⟩ ⟨by decide, by decide⟩ (Nat.le_of_ble_eq_true rfl) rfl h (fun q hq => c_X6_isWord N _ _ _ q hq) (fun q1 _ h => ?_)
      refine AW_if_eq (tgt := 47) dX6_readThings_13 (by decide) h (fun _ h => ?_) (fun _ h => ?_)
      · exact AW_fewer (fw_d (fw_d (fw_d fw_n))) (t_X6_readThings_47 N _ _ h)
      · refine AW_iload_n dX6_readThings_16 rfl ?_
        refine AW_iconst (v := 4) dX6_readThings_17 (by decide) ?_
        refine AW_icmp_ne (tgt := 27) dX6_readThings_18 (by decide) h (fun _ h => ?_) (fun _ h => ?_)
        · refine AW_aload_n dX6_readThings_27 rfl ?_
          refine AW_callVu (y := yX6_advance) (cc := cX6_advance) (n := 1) (d := 1) (mc := 0) (ms := 0) (np := 0) (ret := none) (As := []) (st := []) (ci := 6) dX6_readThings_28 gT_s rfl tM_X6_27 tI_X6_advance selp_X6_advance tIni_X6 tY_X6_advance (by decide +kernel) ⟨by decide, by decide⟩ ⟨by decide, by decide⟩ (Nat.le_of_ble_eq_true rfl) rfl h (fun q hq => c_X6_advance N _ _ q hq) (fun q2 _ h => ?_)
          refine AW_aload_n dX6_readThings_31 rfl ?_
          refine AW_aload_n dX6_readThings_32 rfl ?_
          refine AW_callVi (y := yX6_readThing) (cc := cX6_readThing) (n := 3) (d := 6) (mc := 0) (ms := 0) (np := 1) (ret := (some .boolean)) (As := [va_rf x1]) (st := []) (ci := 6) dX6_readThings_33 gT_s rfl tM_X6_82 tI_X6_readThing selp_X6_readThing tIni_X6 tY_X6_readThing (by decide +kernel) ⟨by decide, by decide⟩ ⟨by decide, by decide⟩ (Nat.le_of_ble_eq_true rfl) rfl h (fun q hq => c_X6_readThing N _ _ _ q hq) (fun q3 _ h => ?_)
          refine AW_if_ne (tgt := 41) dX6_readThings_36 (by decide) h (fun _ h => ?_) (fun _ h => ?_)
          · refine AW_iinc (v := 1) (ls' := [some (va_rf x0), some (va_rf x1), some (.int (x2 + (1 : Int32)))]) dX6_readThings_41 rfl (c1_r rfl) (by decide) (by decide) rfl ?_
            refine AW_goto (tgt := 2) dX6_readThings_44 (by decide) ?_
            exact (ih _ _ _ _ _ h)
          · refine AW_iconst (v := 0) dX6_readThings_39 (by decide) ?_
            exact AW_zret dX6_readThings_40 rfl ⟨Nat.zero_le _, Nat.zero_le _⟩ h
        · refine AW_aload_n dX6_readThings_21 rfl ?_
          refine AW_iconst (v := 3) dX6_readThings_22 (by decide) ?_
          refine AW_callVi (y := yX6_fail) (cc := cX6_fail) (n := 2) (d := 0) (mc := 0) (ms := 0) (np := 1) (ret := (some .boolean)) (As := [.int (3 : Int32)]) (st := []) (ci := 6) dX6_readThings_23 gT_s rfl tM_X6_78 tI_X6_fail selp_X6_fail tIni_X6 tY_X6_fail (by decide +kernel) ⟨by decide, by decide⟩ ⟨by decide, by decide⟩ (Nat.le_of_ble_eq_true rfl) rfl h (fun q hq => c_X6_fail N _ _ _ q hq) (fun q4 _ h => ?_)
          exact AW_zret dX6_readThings_26 rfl ⟨Nat.zero_le _, Nat.zero_le _⟩ h
def f_X6_readThings_0 (N : Nat) (A : hP) (x0 : Option Nat) (x1 : Option Nat) : Option (Int32 × hP) := f_X6_readThings_2 N N A x0 x1 (0 : Int32)
set_option maxRecDepth 20000 in
set_option maxHeartbeats 4000000 in
theorem t_X6_readThings_0 {l : Launch} {G : gS} (N : Nat) (A : hP) (x0 : Option Nat) (x1 : Option Nat) (res : Int32 × hP) (h : f_X6_readThings_0 N A x0 x1 = some res) : AW l mX6_readThings (g_rm 7 0 0) G (g_Qf G (gi res) 0 0) A 0 0 0 [some (va_rf x0), some (va_rf x1), none] [] := by
  unfold f_X6_readThings_0 at h
  refine AW_iconst (v := 0) dX6_readThings_0 (by decide) ?_
  refine AW_istore_n (ls' := [some (va_rf x0), some (va_rf x1), some (.int (0 : Int32))]) dX6_readThings_1 (c1_r rfl) (by decide) rfl ?_
  exact (t_X6_readThings_2 N N _ _ _ _ _ h)
def f_X6_readThings (N : Nat) (A : hP) (x0 : Option Nat) (x1 : Option Nat) : Option (Int32 × hP) := f_X6_readThings_0 N A x0 x1
set_option maxRecDepth 20000 in
theorem c_X6_readThings {l : Launch} (N : Nat) (A : hP) (x0 : Option Nat) (x1 : Option Nat) (res : Int32 × hP) (h : f_X6_readThings N A x0 x1 = some res) : Ct l mX6_readThings 7 0 0 A [va_rf x0, va_rf x1] (gi res) := Ct.of (lv := [(0, va_rf x0), (1, va_rf x1)]) (ls := [some (va_rf x0), some (va_rf x1), none]) (by decide) (by simp [lv_args, g_cat_rf, cat_i, cat_l]) rfl (by simp [g_cat_rf, cat_i, cat_l]) (fun G => (t_X6_readThings_0 N A x0 x1 res h))
abbrev mX6_readDays : gM := gMk yX6_readDays cX6_readDays 3 (some .boolean)
def f_X6_readDays_70 (N : Nat) (A : hP) : Option (Int32 × hP) := if (1 : Int32) = 0 ∨ (1 : Int32) = 1 then some ((1 : Int32), A) else none
set_option maxRecDepth 20000 in
set_option maxHeartbeats 4000000 in
theorem t_X6_readDays_70 {l : Launch} {G : gS} (N : Nat) (A : hP) (res : Int32 × hP) (h : f_X6_readDays_70 N A  = some res) : AW l mX6_readDays (g_rm 5 0 0) G (g_Qf G (gi res) 0 0) A 0 0 70 [none, none, none] [] := by
  unfold f_X6_readDays_70 at h
  refine AW_iconst (v := 1) dX6_readDays_70 (by decide) ?_
  exact AW_zret dX6_readDays_71 rfl ⟨Nat.zero_le _, Nat.zero_le _⟩ h
def f_X6_readDays_2 (N : Nat) : Nat → hP → Option Nat → Option Nat → Int32 → Option (Int32 × hP)
  | 0, _, _, _, _ => none
  | n + 1, A, x0, x1, x2 => if (12 : Int32) < x2 then (f_X6_readDays_70 N A) else ((oCk A x0 6).bind fun _ => (f_X6_isWord N A x0 (some 1000007)).bind fun q1 => if q1.1 = (0) then (f_X6_readDays_70 N q1.2) else (if x2 = (12 : Int32) then ((oCk q1.2 x0 6).bind fun _ => (f_X6_fail N q1.2 x0 (3 : Int32)).bind fun q8 => if q8.1 = 0 ∨ q8.1 = 1 then some (q8.1, q8.2) else none) else ((oCk q1.2 x0 6).bind fun _ => (f_X6_advance N q1.2 x0).bind fun q2 => (oCk q2.2 x1 2).bind fun _ => (f_X2_allThings N q2.2 x1).bind fun q3 => (oCk q3.2 x0 6).bind fun _ => (f_X6_takeNumber N q3.2 x0 (0 : Int32) q3.1).bind fun q4 => if q4.1 = (0) then (if (0 : Int32) = 0 ∨ (0 : Int32) = 1 then some ((0 : Int32), q4.2) else none) else ((oI q4.2 x0 6 7).bind fun v5 => (oCk q4.2 x1 2).bind fun _ => (f_X2_addDay N q4.2 x1 v5).bind fun q6 => (oCk q6.2 x0 6).bind fun _ => (f_X6_takeSemicolon N q6.2 x0).bind fun q7 => if q7.1 = (0) then (if (0 : Int32) = 0 ∨ (0 : Int32) = 1 then some ((0 : Int32), q7.2) else none) else (f_X6_readDays_2 N n q7.2 x0 x1 (x2 + (1 : Int32)))))))
set_option maxRecDepth 20000 in
set_option maxHeartbeats 4000000 in
theorem t_X6_readDays_2 {l : Launch} {G : gS} (N : Nat) : ∀ (n : Nat) (A : hP) (x0 : Option Nat) (x1 : Option Nat) (x2 : Int32) (res : Int32 × hP), f_X6_readDays_2 N n A x0 x1 x2 = some res → AW l mX6_readDays (g_rm 5 0 0) G (g_Qf G (gi res) 0 0) A 0 0 2 [some (va_rf x0), some (va_rf x1), some (.int x2)] [] := by
  intro n
  induction n with
  | zero => intro A x0 x1 x2 res h; cases h
  | succ n ih =>
    intro A x0 x1 x2 res h
    rw [f_X6_readDays_2] at h
    refine AW_iload_n dX6_readDays_2 rfl ?_
    refine AW_bipush (v := 12) dX6_readDays_3 (by decide) ?_
    refine AW_icmp_gt (tgt := 70) dX6_readDays_5 (by decide) h (fun _ h => ?_) (fun _ h => ?_)
    · exact AW_fewer (fw_d (fw_d (fw_d fw_n))) (t_X6_readDays_70 N _ _ h)
    · refine AW_aload_n dX6_readDays_8 rfl ?_
      refine AW_ldcs (j := 7) rfl dX6_readDays_9 rfl ?_
      refine AW_callVi (y := yX6_isWord) (cc := cX6_isWord) (n := 3) (d := 4) (mc := 0) (ms := 0) (np := 1) (ret := (some .boolean)) (As := [va_rf (some 1000007)]) (st := []) (ci := 6) dX6_readDays_11 gT_s rfl tM_X6_75 tI_X6_isWord selp_X6_isWord tIni_X6 tY_X6_isWord (by decide +kernel) ⟨by decide, by decide⟩ ⟨by decide, by decide⟩ (Nat.le_of_ble_eq_true rfl) rfl h (fun q hq => c_X6_isWord N _ _ _ q hq) (fun q1 _ h => ?_)
      refine AW_if_eq (tgt := 70) dX6_readDays_14 (by decide) h (fun _ h => ?_) (fun _ h => ?_)
      · exact AW_fewer (fw_d (fw_d (fw_d fw_n))) (t_X6_readDays_70 N _ _ h)
      · refine AW_iload_n dX6_readDays_17 rfl ?_
        refine AW_bipush (v := 12) dX6_readDays_18 (by decide) ?_
        refine AW_icmp_ne (tgt := 29) dX6_readDays_20 (by decide) h (fun _ h => ?_) (fun _ h => ?_)
        · refine AW_aload_n dX6_readDays_29 rfl ?_
          refine AW_callVu (y := yX6_advance) (cc := cX6_advance) (n := 1) (d := 1) (mc := 0) (ms := 0) (np := 0) (ret := none) (As := []) (st := []) (ci := 6) dX6_readDays_30 gT_s rfl tM_X6_27 tI_X6_advance selp_X6_advance tIni_X6 tY_X6_advance (by decide +kernel) ⟨by decide, by decide⟩ ⟨by decide, by decide⟩ (Nat.le_of_ble_eq_true rfl) rfl h (fun q hq => c_X6_advance N _ _ q hq) (fun q2 _ h => ?_)
          refine AW_aload_n dX6_readDays_33 rfl ?_
          refine AW_iconst (v := 0) dX6_readDays_34 (by decide) ?_
          refine AW_aload_n dX6_readDays_35 rfl ?_
          refine AW_callVi (y := yX2_allThings) (cc := cX2_allThings) (n := 1) (d := 0) (mc := 0) (ms := 0) (np := 0) (ret := (some .int)) (As := []) (st := [.int (0 : Int32), va_rf x0]) (ci := 2) dX6_readDays_36 gT_s rfl tM_X6_95 tI_X2_allThings tSel_X2_X2_X2_allThings tIni_X2 tY_X2_allThings (by decide +kernel) ⟨by decide, by decide⟩ ⟨by decide, by decide⟩ (Nat.le_of_ble_eq_true rfl) rfl h (fun q hq => c_X2_allThings N _ _ q hq) (fun q3 _ h => ?_)
          refine AW_callVi (y := yX6_takeNumber) (cc := cX6_takeNumber) (n := 3) (d := 2) (mc := 0) (ms := 0) (np := 2) (ret := (some .boolean)) (As := [.int (0 : Int32), .int q3.1]) (st := []) (ci := 6) dX6_readDays_39 gT_s rfl tM_X6_54 tI_X6_takeNumber selp_X6_takeNumber tIni_X6 tY_X6_takeNumber (by decide +kernel) ⟨by decide, by decide⟩ ⟨by decide, by decide⟩ (Nat.le_of_ble_eq_true rfl) rfl h (fun q hq => c_X6_takeNumber N _ _ _ _ q hq) (fun q4 _ h => ?_)
          refine AW_if_ne (tgt := 47) dX6_readDays_42 (by decide) h (fun _ h => ?_) (fun _ h => ?_)
          · refine AW_aload_n dX6_readDays_47 rfl ?_
            refine AW_aload_n dX6_readDays_48 rfl ?_
            refine AW_getI (ci := 6) (k0 := 7) (C := RX6) (T := TX6) (N := 8) dX6_readDays_49 rfl (gT_u tU_X6) (by decide) (List.mem_cons_of_mem _ tF_X6_58) h (fun v5 _ h => ?_)
            refine AW_callVu (y := yX2_addDay) (cc := cX2_addDay) (n := 2) (d := 0) (mc := 0) (ms := 0) (np := 1) (ret := none) (As := [.int v5]) (st := []) (ci := 2) dX6_readDays_52 gT_s rfl tM_X6_98 tI_X2_addDay tSel_X2_X2_X2_addDay tIni_X2 tY_X2_addDay (by decide +kernel) ⟨by decide, by decide⟩ ⟨by decide, by decide⟩ (Nat.le_of_ble_eq_true rfl) rfl h (fun q hq => c_X2_addDay N _ _ _ q hq) (fun q6 _ h => ?_)
            refine AW_aload_n dX6_readDays_55 rfl ?_
            refine AW_callVi (y := yX6_takeSemicolon) (cc := cX6_takeSemicolon) (n := 1) (d := 2) (mc := 0) (ms := 0) (np := 0) (ret := (some .boolean)) (As := []) (st := []) (ci := 6) dX6_readDays_56 gT_s rfl tM_X6_70 tI_X6_takeSemicolon selp_X6_takeSemicolon tIni_X6 tY_X6_takeSemicolon (by decide +kernel) ⟨by decide, by decide⟩ ⟨by decide, by decide⟩ (Nat.le_of_ble_eq_true rfl) rfl h (fun q hq => c_X6_takeSemicolon N _ _ q hq) (fun q7 _ h => ?_)
            refine AW_if_ne (tgt := 64) dX6_readDays_59 (by decide) h (fun _ h => ?_) (fun _ h => ?_)
            · refine AW_iinc (v := 1) (ls' := [some (va_rf x0), some (va_rf x1), some (.int (x2 + (1 : Int32)))]) dX6_readDays_64 rfl (c1_r rfl) (by decide) (by decide) rfl ?_
              refine AW_goto (tgt := 2) dX6_readDays_67 (by decide) ?_
              exact (ih _ _ _ _ _ h)
            · refine AW_iconst (v := 0) dX6_readDays_62 (by decide) ?_
              exact AW_zret dX6_readDays_63 rfl ⟨Nat.zero_le _, Nat.zero_le _⟩ h
          · refine AW_iconst (v := 0) dX6_readDays_45 (by decide) ?_
            exact AW_zret dX6_readDays_46 rfl ⟨Nat.zero_le _, Nat.zero_le _⟩ h
        · refine AW_aload_n dX6_readDays_23 rfl ?_
          refine AW_iconst (v := 3) dX6_readDays_24 (by decide) ?_
          refine AW_callVi (y := yX6_fail) (cc := cX6_fail) (n := 2) (d := 0) (mc := 0) (ms := 0) (np := 1) (ret := (some .boolean)) (As := [.int (3 : Int32)]) (st := []) (ci := 6) dX6_readDays_25 gT_s rfl tM_X6_78 tI_X6_fail selp_X6_fail tIni_X6 tY_X6_fail (by decide +kernel) ⟨by decide, by decide⟩ ⟨by decide, by decide⟩ (Nat.le_of_ble_eq_true rfl) rfl h (fun q hq => c_X6_fail N _ _ _ q hq) (fun q8 _ h => ?_)
          exact AW_zret dX6_readDays_28 rfl ⟨Nat.zero_le _, Nat.zero_le _⟩ h
def f_X6_readDays_0 (N : Nat) (A : hP) (x0 : Option Nat) (x1 : Option Nat) : Option (Int32 × hP) := f_X6_readDays_2 N N A x0 x1 (0 : Int32)
set_option maxRecDepth 20000 in
set_option maxHeartbeats 4000000 in
theorem t_X6_readDays_0 {l : Launch} {G : gS} (N : Nat) (A : hP) (x0 : Option Nat) (x1 : Option Nat) (res : Int32 × hP) (h : f_X6_readDays_0 N A x0 x1 = some res) : AW l mX6_readDays (g_rm 5 0 0) G (g_Qf G (gi res) 0 0) A 0 0 0 [some (va_rf x0), some (va_rf x1), none] [] := by
  unfold f_X6_readDays_0 at h
  refine AW_iconst (v := 0) dX6_readDays_0 (by decide) ?_
  refine AW_istore_n (ls' := [some (va_rf x0), some (va_rf x1), some (.int (0 : Int32))]) dX6_readDays_1 (c1_r rfl) (by decide) rfl ?_
  exact (t_X6_readDays_2 N N _ _ _ _ _ h)
def f_X6_readDays (N : Nat) (A : hP) (x0 : Option Nat) (x1 : Option Nat) : Option (Int32 × hP) := f_X6_readDays_0 N A x0 x1
set_option maxRecDepth 20000 in
theorem c_X6_readDays {l : Launch} (N : Nat) (A : hP) (x0 : Option Nat) (x1 : Option Nat) (res : Int32 × hP) (h : f_X6_readDays N A x0 x1 = some res) : Ct l mX6_readDays 5 0 0 A [va_rf x0, va_rf x1] (gi res) := Ct.of (lv := [(0, va_rf x0), (1, va_rf x1)]) (ls := [some (va_rf x0), some (va_rf x1), none]) (by decide) (by simp [lv_args, g_cat_rf, cat_i, cat_l]) rfl (by simp [g_cat_rf, cat_i, cat_l]) (fun G => (t_X6_readDays_0 N A x0 x1 res h))
abbrev mX6_readEnd : gM := gMk yX6_readEnd cX6_readEnd 1 (some .boolean)
def f_X6_readEnd_20 (N : Nat) (A : hP) (s0 : Int32) : Option (Int32 × hP) := if s0 = 0 ∨ s0 = 1 then some (s0, A) else none
set_option maxRecDepth 20000 in
set_option maxHeartbeats 4000000 in
theorem t_X6_readEnd_20 {l : Launch} {G : gS} (N : Nat) (A : hP) (s0 : Int32) (res : Int32 × hP) (h : f_X6_readEnd_20 N A s0 = some res) : AW l mX6_readEnd (g_rm 1 0 0) G (g_Qf G (gi res) 0 0) A 0 0 20 [none] [.int s0] := by
  unfold f_X6_readEnd_20 at h
  exact AW_zret dX6_readEnd_20 rfl ⟨Nat.zero_le _, Nat.zero_le _⟩ h
def f_X6_readEnd_15 (N : Nat) (A : hP) : Option (Int32 × hP) := f_X6_readEnd_20 N A (1 : Int32)
set_option maxRecDepth 20000 in
set_option maxHeartbeats 4000000 in
theorem t_X6_readEnd_15 {l : Launch} {G : gS} (N : Nat) (A : hP) (res : Int32 × hP) (h : f_X6_readEnd_15 N A  = some res) : AW l mX6_readEnd (g_rm 1 0 0) G (g_Qf G (gi res) 0 0) A 0 0 15 [none] [] := by
  unfold f_X6_readEnd_15 at h
  refine AW_iconst (v := 1) dX6_readEnd_15 (by decide) ?_
  refine AW_goto (tgt := 20) dX6_readEnd_16 (by decide) ?_
  exact (t_X6_readEnd_20 N _ _ _ h)
def f_X6_readEnd_0 (N : Nat) (A : hP) (x0 : Option Nat) : Option (Int32 × hP) := (oI A x0 6 6).bind fun v1 => if v1 = (0) then (f_X6_readEnd_15 N A) else ((oCk A x0 6).bind fun _ => (f_X6_fail N A x0 (1 : Int32)).bind fun q2 => if q2.1 = (0) then (f_X6_readEnd_20 N q2.2 (0 : Int32)) else (f_X6_readEnd_15 N q2.2))
set_option maxRecDepth 20000 in
set_option maxHeartbeats 4000000 in
theorem t_X6_readEnd_0 {l : Launch} {G : gS} (N : Nat) (A : hP) (x0 : Option Nat) (res : Int32 × hP) (h : f_X6_readEnd_0 N A x0 = some res) : AW l mX6_readEnd (g_rm 1 0 0) G (g_Qf G (gi res) 0 0) A 0 0 0 [some (va_rf x0)] [] := by
  unfold f_X6_readEnd_0 at h
  refine AW_aload_n dX6_readEnd_0 rfl ?_
  refine AW_getI (ci := 6) (k0 := 6) (C := RX6) (T := TX6) (N := 8) dX6_readEnd_1 rfl (gT_u tU_X6) (by decide) (List.mem_cons_of_mem _ tF_X6_102) h (fun v1 _ h => ?_)
  refine AW_if_eq (tgt := 15) dX6_readEnd_4 (by decide) h (fun _ h => ?_) (fun _ h => ?_)
  · exact AW_fewer (fw_d fw_n) (t_X6_readEnd_15 N _ _ h)
  · refine AW_aload_n dX6_readEnd_7 rfl ?_
    refine AW_iconst (v := 1) dX6_readEnd_8 (by decide) ?_
    refine AW_callVi (y := yX6_fail) (cc := cX6_fail) (n := 2) (d := 0) (mc := 0) (ms := 0) (np := 1) (ret := (some .boolean)) (As := [.int (1 : Int32)]) (st := []) (ci := 6) dX6_readEnd_9 gT_s rfl tM_X6_78 tI_X6_fail selp_X6_fail tIni_X6 tY_X6_fail (by decide +kernel) ⟨by decide, by decide⟩ ⟨by decide, by decide⟩ (Nat.le_of_ble_eq_true rfl) rfl h (fun q hq => c_X6_fail N _ _ _ q hq) (fun q2 _ h => ?_)
    refine AW_if_eq (tgt := 19) dX6_readEnd_12 (by decide) h (fun _ h => ?_) (fun _ h => ?_)
    · refine AW_iconst (v := 0) dX6_readEnd_19 (by decide) ?_
      exact AW_fewer (fw_d fw_n) (t_X6_readEnd_20 N _ _ _ h)
    · exact AW_fewer (fw_d fw_n) (t_X6_readEnd_15 N _ _ h)
def f_X6_readEnd (N : Nat) (A : hP) (x0 : Option Nat) : Option (Int32 × hP) := f_X6_readEnd_0 N A x0
set_option maxRecDepth 20000 in
theorem c_X6_readEnd {l : Launch} (N : Nat) (A : hP) (x0 : Option Nat) (res : Int32 × hP) (h : f_X6_readEnd N A x0 = some res) : Ct l mX6_readEnd 1 0 0 A [va_rf x0] (gi res) := Ct.of (lv := [(0, va_rf x0)]) (ls := [some (va_rf x0)]) (by decide) (by simp [lv_args, g_cat_rf, cat_i, cat_l]) rfl (by simp [g_cat_rf, cat_i, cat_l]) (fun G => (t_X6_readEnd_0 N A x0 res h))
abbrev mX6_readInto : gM := gMk yX6_readInto cX6_readInto 3 (some .boolean)
def f_X6_readInto_49 (N : Nat) (A : hP) (x0 : Option Nat) (x1 : Option Nat) (s0 : Int32) : Option (Int32 × hP) := (oPz A x1 2 0 s0).bind fun A1 => (oP A1 x0 6 1 (.int (0 : Int32))).bind fun A2 => if s0 = 0 ∨ s0 = 1 then some (s0, A2) else none
set_option maxRecDepth 20000 in
set_option maxHeartbeats 4000000 in
theorem t_X6_readInto_49 {l : Launch} {G : gS} (N : Nat) (A : hP) (x0 : Option Nat) (x1 : Option Nat) (s0 : Int32) (res : Int32 × hP) (h : f_X6_readInto_49 N A x0 x1 s0 = some res) : AW l mX6_readInto (g_rm 8 0 0) G (g_Qf G (gi res) 0 0) A 0 0 49 [some (va_rf x0), some (va_rf x1), none] [.int s0] := by
  unfold f_X6_readInto_49 at h
  refine AW_istore_n (ls' := [some (va_rf x0), some (va_rf x1), some (.int s0)]) dX6_readInto_49 (c1_r rfl) (by decide) rfl ?_
  refine AW_aload_n dX6_readInto_50 rfl ?_
  refine AW_iload_n dX6_readInto_51 rfl ?_
  refine AW_putZ (ci := 2) (k0 := 0) (C := RX2) (T := TX2) (N := 11) (ty0 := tyX2) dX6_readInto_52 rfl (gT_u tU_X2) tyX2_ok nmX2 (by decide) (List.mem_cons_of_mem _ tF_X6_44) rfl rfl h (fun A1 _ h => ?_)
  refine AW_aload_n dX6_readInto_55 rfl ?_
  refine AW_iconst (v := 0) dX6_readInto_56 (by decide) ?_
  refine AW_put (ci := 6) (k0 := 1) (C := RX6) (T := TX6) (N := 8) (ty0 := tyX6) dX6_readInto_57 rfl (gT_u tU_X6) tyX6_ok nmX6 (by decide) (List.mem_cons_of_mem _ tF_X6_15) (Or.inl rfl) rfl rfl h (fun A2 _ h => ?_)
  refine AW_iload_n dX6_readInto_60 rfl ?_
  exact AW_zret dX6_readInto_61 rfl ⟨Nat.zero_le _, Nat.zero_le _⟩ h
def f_X6_readInto_48 (N : Nat) (A : hP) (x0 : Option Nat) (x1 : Option Nat) : Option (Int32 × hP) := f_X6_readInto_49 N A x0 x1 (0 : Int32)
set_option maxRecDepth 20000 in
set_option maxHeartbeats 4000000 in
theorem t_X6_readInto_48 {l : Launch} {G : gS} (N : Nat) (A : hP) (x0 : Option Nat) (x1 : Option Nat) (res : Int32 × hP) (h : f_X6_readInto_48 N A x0 x1 = some res) : AW l mX6_readInto (g_rm 8 0 0) G (g_Qf G (gi res) 0 0) A 0 0 48 [some (va_rf x0), some (va_rf x1), none] [] := by
  unfold f_X6_readInto_48 at h
  refine AW_iconst (v := 0) dX6_readInto_48 (by decide) ?_
  exact (t_X6_readInto_49 N _ _ _ _ _ h)
def f_X6_readInto_0 (N : Nat) (A : hP) (x0 : Option Nat) (x1 : Option Nat) : Option (Int32 × hP) := (oCk A x1 2).bind fun _ => (f_X2_clear N A x1).bind fun q3 => (oP q3.2 x0 6 4 (.int (0 : Int32))).bind fun A4 => (oCk A4 x0 6).bind fun _ => (f_X6_advance N A4 x0).bind fun q5 => (oCk q5.2 x0 6).bind fun _ => (f_X6_readLaw N q5.2 x0 x1).bind fun q6 => if q6.1 = (0) then (f_X6_readInto_48 N q6.2 x0 x1) else ((oCk q6.2 x0 6).bind fun _ => (f_X6_readThings N q6.2 x0 x1).bind fun q7 => if q7.1 = (0) then (f_X6_readInto_48 N q7.2 x0 x1) else ((oCk q7.2 x0 6).bind fun _ => (f_X6_readDays N q7.2 x0 x1).bind fun q8 => if q8.1 = (0) then (f_X6_readInto_48 N q8.2 x0 x1) else ((oCk q8.2 x0 6).bind fun _ => (f_X6_readEnd N q8.2 x0).bind fun q9 => if q9.1 = (0) then (f_X6_readInto_48 N q9.2 x0 x1) else (f_X6_readInto_49 N q9.2 x0 x1 (1 : Int32)))))
set_option maxRecDepth 20000 in
set_option maxHeartbeats 4000000 in
theorem t_X6_readInto_0 {l : Launch} {G : gS} (N : Nat) (A : hP) (x0 : Option Nat) (x1 : Option Nat) (res : Int32 × hP) (h : f_X6_readInto_0 N A x0 x1 = some res) : AW l mX6_readInto (g_rm 8 0 0) G (g_Qf G (gi res) 0 0) A 0 0 0 [some (va_rf x0), some (va_rf x1), none] [] := by
  unfold f_X6_readInto_0 at h
  refine AW_aload_n dX6_readInto_0 rfl ?_
  refine AW_callVu (y := yX2_clear) (cc := cX2_clear) (n := 1) (d := 0) (mc := 0) (ms := 0) (np := 0) (ret := none) (As := []) (st := []) (ci := 2) dX6_readInto_1 gT_s rfl tM_X6_19 tI_X2_clear tSel_X2_X2_X2_clear tIni_X2 tY_X2_clear (by decide +kernel) ⟨by decide, by decide⟩ ⟨by decide, by decide⟩ (Nat.le_of_ble_eq_true rfl) rfl h (fun q hq => c_X2_clear N _ _ q hq) (fun q3 _ h => ?_)
  refine AW_aload_n dX6_readInto_4 rfl ?_
  refine AW_iconst (v := 0) dX6_readInto_5 (by decide) ?_
  refine AW_put (ci := 6) (k0 := 4) (C := RX6) (T := TX6) (N := 8) (ty0 := tyX6) dX6_readInto_6 rfl (gT_u tU_X6) tyX6_ok nmX6 (by decide) (List.mem_cons_of_mem _ tF_X6_24) (Or.inl rfl) rfl rfl h (fun A4 _ h => ?_)
  refine AW_aload_n dX6_readInto_9 rfl ?_
  refine AW_callVu (y := yX6_advance) (cc := cX6_advance) (n := 1) (d := 1) (mc := 0) (ms := 0) (np := 0) (ret := none) (As := []) (st := []) (ci := 6) dX6_readInto_10 gT_s rfl tM_X6_27 tI_X6_advance selp_X6_advance tIni_X6 tY_X6_advance (by decide +kernel) ⟨by decide, by decide⟩ ⟨by decide, by decide⟩ (Nat.le_of_ble_eq_true rfl) rfl h (fun q hq => c_X6_advance N _ _ q hq) (fun q5 _ h => ?_)
  refine AW_aload_n dX6_readInto_13 rfl ?_
  refine AW_aload_n dX6_readInto_14 rfl ?_
  refine AW_callVi (y := yX6_readLaw) (cc := cX6_readLaw) (n := 2) (d := 6) (mc := 0) (ms := 0) (np := 1) (ret := (some .boolean)) (As := [va_rf x1]) (st := []) (ci := 6) dX6_readInto_15 gT_s rfl tM_X6_30 tI_X6_readLaw selp_X6_readLaw tIni_X6 tY_X6_readLaw (by decide +kernel) ⟨by decide, by decide⟩ ⟨by decide, by decide⟩ (Nat.le_of_ble_eq_true rfl) rfl h (fun q hq => c_X6_readLaw N _ _ _ q hq) (fun q6 _ h => ?_)
  refine AW_if_eq (tgt := 48) dX6_readInto_18 (by decide) h (fun _ h => ?_) (fun _ h => ?_)
  · exact (t_X6_readInto_48 N _ _ _ _ h)
  · refine AW_aload_n dX6_readInto_21 rfl ?_
    refine AW_aload_n dX6_readInto_22 rfl ?_
    refine AW_callVi (y := yX6_readThings) (cc := cX6_readThings) (n := 3) (d := 7) (mc := 0) (ms := 0) (np := 1) (ret := (some .boolean)) (As := [va_rf x1]) (st := []) (ci := 6) dX6_readInto_23 gT_s rfl tM_X6_34 tI_X6_readThings selp_X6_readThings tIni_X6 tY_X6_readThings (by decide +kernel) ⟨by decide, by decide⟩ ⟨by decide, by decide⟩ (Nat.le_of_ble_eq_true rfl) rfl h (fun q hq => c_X6_readThings N _ _ _ q hq) (fun q7 _ h => ?_)
    refine AW_if_eq (tgt := 48) dX6_readInto_26 (by decide) h (fun _ h => ?_) (fun _ h => ?_)
    · exact (t_X6_readInto_48 N _ _ _ _ h)
    · refine AW_aload_n dX6_readInto_29 rfl ?_
      refine AW_aload_n dX6_readInto_30 rfl ?_
      refine AW_callVi (y := yX6_readDays) (cc := cX6_readDays) (n := 3) (d := 5) (mc := 0) (ms := 0) (np := 1) (ret := (some .boolean)) (As := [va_rf x1]) (st := []) (ci := 6) dX6_readInto_31 gT_s rfl tM_X6_37 tI_X6_readDays selp_X6_readDays tIni_X6 tY_X6_readDays (by decide +kernel) ⟨by decide, by decide⟩ ⟨by decide, by decide⟩ (Nat.le_of_ble_eq_true rfl) rfl h (fun q hq => c_X6_readDays N _ _ _ q hq) (fun q8 _ h => ?_)
      refine AW_if_eq (tgt := 48) dX6_readInto_34 (by decide) h (fun _ h => ?_) (fun _ h => ?_)
      · exact (t_X6_readInto_48 N _ _ _ _ h)
      · refine AW_aload_n dX6_readInto_37 rfl ?_
        refine AW_callVi (y := yX6_readEnd) (cc := cX6_readEnd) (n := 1) (d := 1) (mc := 0) (ms := 0) (np := 0) (ret := (some .boolean)) (As := []) (st := []) (ci := 6) dX6_readInto_38 gT_s rfl tM_X6_40 tI_X6_readEnd selp_X6_readEnd tIni_X6 tY_X6_readEnd (by decide +kernel) ⟨by decide, by decide⟩ ⟨by decide, by decide⟩ (Nat.le_of_ble_eq_true rfl) rfl h (fun q hq => c_X6_readEnd N _ _ q hq) (fun q9 _ h => ?_)
        refine AW_if_eq (tgt := 48) dX6_readInto_41 (by decide) h (fun _ h => ?_) (fun _ h => ?_)
        · exact (t_X6_readInto_48 N _ _ _ _ h)
        · refine AW_iconst (v := 1) dX6_readInto_44 (by decide) ?_
          refine AW_goto (tgt := 49) dX6_readInto_45 (by decide) ?_
          exact (t_X6_readInto_49 N _ _ _ _ _ h)
def f_X6_readInto (N : Nat) (A : hP) (x0 : Option Nat) (x1 : Option Nat) : Option (Int32 × hP) := f_X6_readInto_0 N A x0 x1
set_option maxRecDepth 20000 in
theorem c_X6_readInto {l : Launch} (N : Nat) (A : hP) (x0 : Option Nat) (x1 : Option Nat) (res : Int32 × hP) (h : f_X6_readInto N A x0 x1 = some res) : Ct l mX6_readInto 8 0 0 A [va_rf x0, va_rf x1] (gi res) := Ct.of (lv := [(0, va_rf x0), (1, va_rf x1)]) (ls := [some (va_rf x0), some (va_rf x1), none]) (by decide) (by simp [lv_args, g_cat_rf, cat_i, cat_l]) rfl (by simp [g_cat_rf, cat_i, cat_l]) (fun G => (t_X6_readInto_0 N A x0 x1 res h))
