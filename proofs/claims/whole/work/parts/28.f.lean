def bC (w : Int64) (i : Nat) : Int32 := (((w >>> (((8 : Int32) * nI i).toInt64 &&& 63)).toInt32).toInt8.toInt32).toInt8.toInt32
def bM (w : Int64) (i : Nat) : Int32 := ((w >>> (((8 : Int32) * nI i).toInt64 &&& 63)) &&& (255 : Int64)).toInt32
theorem i8_i8 (x : Int32) : x.toInt8.toInt32.toInt8.toInt32 = x.toInt8.toInt32 := by
  have := pk_vb x
  rw [vp_nar_byte] at this
  exact this
theorem bit_fd (w : Int64) (i : Nat) : ∃ b, b < 256 ∧ bM w i = nI b ∧ bC w i = (nI b).toInt8.toInt32 := by
  unfold bC bM
  generalize w >>> (((8 : Int32) * nI i).toInt64 &&& 63) = y
  obtain ⟨n, hn, rfl⟩ := wb_of y
  refine ⟨n % 256, Nat.mod_lt _ (by decide), ?_, ?_⟩
  · have h1 := wb_mask (n := n) (k := 8) hn (by decide)
    rw [show (255 : Int64) = lN (2 ^ 8 - 1) from rfl, h1, lN_i]
  · rw [i8_i8, lN_i, show n % 256 = n % 2 ^ 8 from rfl, ← fa_mask n 8, show nI (2 ^ 8 - 1) = 255 from rfl, fa_byte_low]
theorem i32_m1 (x : Int32) : x + (-1) = x - 1 := by rw [Int32.sub_eq_add_neg]
theorem X6_app {N m : Nat} {w : Int64} {L : Nat → Nat → Option Nat} {T : Nat → Nat} : ∀ (c n t : Nat) (F : Nat → Nat → Int32), t + c ≤ 400 → c < n → F 2 1 = nI t → ∃ F', f_X6_append_5 N n (Hp m F L T) (some 2) w (nI c - 1) = some (nI (t + c), Hp m F' L T) ∧ F' 2 1 = nI (t + c) ∧ (∀ k, k < t → F' 3 k = F 3 k) ∧ (∀ k, k < c → F' 3 (t + k) = bC w (c - 1 - k)) ∧ ∀ p, p ≠ 2 → p ≠ 3 → F' p = F p := by
  intro c
  induction c with
  | zero =>
    intro n t F h1 h2 h3
    obtain ⟨n, rfl⟩ : ∃ j, n = j + 1 := ⟨n - 1, by omega⟩
    refine ⟨F, ?_, h3, fun k _ => rfl, fun k hk => by omega, fun p _ _ => rfl⟩
    rw [f_X6_append_5, if_pos (by decide)]
    simp only [f_X6_append_54, h3, gI_0, gI_2, gI_4, gI_9, gI_15, gI_21, gI_49, gP_0, gP_2, gP_4, gP_9, gP_15, gP_21, gP_49, gR_0, gR_2, gR_4, gR_9, gR_15, gR_21, gR_49, gL_53, gL_54, oPz_0, oPz_1, Option.bind_some, c10, c01, cm1, c00, if_true, if_false, ne_eq, not_true_eq_false, not_false_eq_true]
    rfl
  | succ c ih =>
    intro n t F h1 h2 h3
    obtain ⟨n, rfl⟩ : ∃ j, n = j + 1 := ⟨n - 1, by omega⟩
    have e1 : nI (c + 1) - 1 = nI c := nI_pred c
    have e2 : ¬ nI c < 0 := nI_pos (by omega)
    have e3 : ¬ (400 : Int32) ≤ nI t := nI_ge (a := t) (b := 400) (by omega) (by omega)
    have e5 : up2 F 3 t (bC w c) 2 1 = nI t := by simp (disch := omega) only [up2_ne, up2_o, up2_s]; exact h3
    obtain ⟨F', q1, q2, q3, q4, q5⟩ := ih n (t + 1) (up2 (up2 F 3 t (bC w c)) 2 1 (nI (t + 1))) (by omega) (by omega) (by simp (disch := omega) only [up2_ne, up2_o, up2_s])
    refine ⟨F', ?_, ?_, fun k hk => ?_, fun k hk => ?_, fun p hp hp3 => ?_⟩
    · rw [f_X6_append_5, e1, if_neg e2]
      simp only [h3, e3, gI_0, gI_2, gI_4, gI_9, gI_15, gI_21, gI_49, gP_0, gP_2, gP_4, gP_9, gP_15, gP_21, gP_49, gR_0, gR_2, gR_4, gR_9, gR_15, gR_21, gR_49, gL_53, gL_54, oPz_0, oPz_1, Option.bind_some, c10, c01, cm1, c00, if_true, if_false, ne_eq, not_true_eq_false, not_false_eq_true]
      rw [show (((w >>> (((8 : Int32) * nI c).toInt64 &&& 63)).toInt32).toInt8.toInt32).toInt8.toInt32 = bC w c from rfl]
      simp only [(gN_3 (show t < 400 by omega)).2, e5, nI_1, i32_m1, gI_0, gI_2, gI_4, gI_9, gI_15, gI_21, gI_49, gP_0, gP_2, gP_4, gP_9, gP_15, gP_21, gP_49, gR_0, gR_2, gR_4, gR_9, gR_15, gR_21, gR_49, gL_53, gL_54, oPz_0, oPz_1, Option.bind_some, c10, c01, cm1, c00, if_true, if_false, ne_eq, not_true_eq_false, not_false_eq_true]
      rw [q1, show t + 1 + c = t + (c + 1) by omega]
    · rw [q2, show t + 1 + c = t + (c + 1) by omega]
    · rw [q3 k (by omega)]; simp (disch := omega) only [up2_ne, up2_o, up2_s]
    · by_cases hk0 : k = 0
      · subst hk0
        rw [Nat.add_zero, q3 t (by omega)]; simp (disch := omega) only [up2_ne, up2_o, up2_s]
        rfl
      · have := q4 (k - 1) (by omega)
        rw [show t + 1 + (k - 1) = t + k by omega, show c - 1 - (k - 1) = c + 1 - 1 - k by omega] at this
        exact this
    · rw [q5 p hp hp3]; simp (disch := omega) only [up2_ne, up2_o, up2_s]
theorem X12_app {N m : Nat} {w : Int64} {L : Nat → Nat → Option Nat} {T : Nat → Nat} : ∀ (c n t : Nat) (F : Nat → Nat → Int32), t + c ≤ 400 → c < n → F 49 8 = nI t → ∃ F', f_X12_feed_40 N n (Hp m F L T) (some 49) w (nI c - 1) = some (nI (t + c), Hp m F' L T) ∧ F' 49 8 = nI (t + c) ∧ (∀ k, k ≠ 8 → F' 49 k = F 49 k) ∧ (∀ k, k < t → F' 55 k = F 55 k) ∧ (∀ k, k < c → F' 55 (t + k) = bM w (c - 1 - k)) ∧ ∀ p, p ≠ 49 → p ≠ 55 → F' p = F p := by
  intro c
  induction c with
  | zero =>
    intro n t F h1 h2 h3
    obtain ⟨n, rfl⟩ : ∃ j, n = j + 1 := ⟨n - 1, by omega⟩
    refine ⟨F, ?_, h3, fun k _ => rfl, fun k _ => rfl, fun k hk => by omega, fun p _ _ => rfl⟩
    rw [f_X12_feed_40, if_pos (by decide)]
    simp only [h3, gI_0, gI_2, gI_4, gI_9, gI_15, gI_21, gI_49, gP_0, gP_2, gP_4, gP_9, gP_15, gP_21, gP_49, gR_0, gR_2, gR_4, gR_9, gR_15, gR_21, gR_49, gL_53, gL_54, oPz_0, oPz_1, Option.bind_some, c10, c01, cm1, c00, if_true, if_false, ne_eq, not_true_eq_false, not_false_eq_true]
    rfl
  | succ c ih =>
    intro n t F h1 h2 h3
    obtain ⟨n, rfl⟩ : ∃ j, n = j + 1 := ⟨n - 1, by omega⟩
    have e1 : nI (c + 1) - 1 = nI c := nI_pred c
    have e2 : ¬ nI c < 0 := nI_pos (by omega)
    have e5 : up2 F 55 t (bM w c) 49 8 = nI t := by simp (disch := omega) only [up2_ne, up2_o, up2_s]; exact h3
    obtain ⟨F', q1, q2, q6, q3, q4, q5⟩ := ih n (t + 1) (up2 (up2 F 55 t (bM w c)) 49 8 (nI (t + 1))) (by omega) (by omega) (by simp (disch := omega) only [up2_ne, up2_o, up2_s])
    refine ⟨F', ?_, ?_, fun k hk => ?_, fun k hk => ?_, fun k hk => ?_, fun p hp hp3 => ?_⟩
    · rw [f_X12_feed_40, e1, if_neg e2]
      simp only [h3, gI_0, gI_2, gI_4, gI_9, gI_15, gI_21, gI_49, gP_0, gP_2, gP_4, gP_9, gP_15, gP_21, gP_49, gR_0, gR_2, gR_4, gR_9, gR_15, gR_21, gR_49, gL_53, gL_54, oPz_0, oPz_1, Option.bind_some, c10, c01, cm1, c00, if_true, if_false, ne_eq, not_true_eq_false, not_false_eq_true]
      rw [show ((w >>> (((8 : Int32) * nI c).toInt64 &&& 63)) &&& (255 : Int64)).toInt32 = bM w c from rfl]
      simp only [(gN_55 (show t < 400 by omega)).2, e5, nI_1, i32_m1, gI_0, gI_2, gI_4, gI_9, gI_15, gI_21, gI_49, gP_0, gP_2, gP_4, gP_9, gP_15, gP_21, gP_49, gR_0, gR_2, gR_4, gR_9, gR_15, gR_21, gR_49, gL_53, gL_54, oPz_0, oPz_1, Option.bind_some, c10, c01, cm1, c00, if_true, if_false, ne_eq, not_true_eq_false, not_false_eq_true]
      rw [q1, show t + 1 + c = t + (c + 1) by omega]
    · rw [q2, show t + 1 + c = t + (c + 1) by omega]
    · rw [q6 k hk]; simp (disch := omega) only [up2_ne, up2_o, up2_s]
    · rw [q3 k (by omega)]; simp (disch := omega) only [up2_ne, up2_o, up2_s]
    · by_cases hk0 : k = 0
      · subst hk0
        rw [Nat.add_zero, q3 t (by omega)]; simp (disch := omega) only [up2_ne, up2_o, up2_s]
        rfl
      · have := q4 (k - 1) (by omega)
        rw [show t + 1 + (k - 1) = t + k by omega, show c - 1 - (k - 1) = c + 1 - 1 - k by omega] at this
        exact this
    · rw [q5 p hp hp3]; simp (disch := omega) only [up2_ne, up2_o, up2_s]
theorem Rel.tape {m : Nat} {F G : Nat → Nat → Int32} {L : Nat → Nat → Option Nat} {T : Nat → Nat} (h : Rel m F L T) (ht : TapeR G) (e : ∀ p, p ≠ 2 → p ≠ 3 → p ≠ 49 → p ≠ 55 → G p = F p) (e9 : G 49 9 = F 49 9) (e1 : G 49 1 = F 49 1) (e30 : G 49 30 = F 49 30) : Rel m G L T := by
  obtain ⟨h1, h2, h3, h4, h5, h6, h7⟩ := h
  exact ⟨h1.same (fun p hp => e p (by omega) (by omega) (by omega) (by omega)), ht, h3.same (e 4 (by omega) (by omega) (by omega) (by omega)) (e 8 (by omega) (by omega) (by omega) (by omega)) (e 6 (by omega) (by omega) (by omega) (by omega)) (by rw [e 15 (by omega) (by omega) (by omega) (by omega)]; exact ⟨rfl, rfl, rfl, rfl⟩) (e 53 (by omega) (by omega) (by omega) (by omega)) (fun t ht => e t (by omega) (by omega) (by omega) (by omega)), h4.same (fun p hp => e p (by omega) (by omega) (by omega) (by omega)), by rw [e 0 (by omega) (by omega) (by omega) (by omega), e9]; exact h5, by rw [e 0 (by omega) (by omega) (by omega) (by omega), e1]; exact h6, h7.same (by rw [e 21 (by omega) (by omega) (by omega) (by omega)]) e30 (e 22 (by omega) (by omega) (by omega) (by omega)) (e 61 (by omega) (by omega) (by omega) (by omega))⟩
theorem X12_in18 {N : Nat} {A : hP} {b : Int32} : f_X12_in N A b.toInt64 (1 : Int64) (8 : Int64) = some (bI ((1 : Int32) ≤ b ∧ b ≤ 8), A) := X12_in32 N A b 1 8
theorem o_feed (N : Nat) (hN : 5000 ≤ N) (m : Nat) (F : Nat → Nat → Int32) (L : Nat → Nat → Option Nat) (T : Nat → Nat) (hm : m ≤ 3000) (R : Rel m F L T) (w : Int64) (j : Int32) : OpOk (fun A => f_X11_feed N A (some 0) w j) (fun A => f_X12_feed N A (some 49) w j) m F L T := by
  obtain ⟨t, ht, t1, t2, t3⟩ := R.2.1
  by_cases hj : (1 : Int32) ≤ j ∧ j ≤ 8
  case neg =>
    refine ⟨-1000001, m, F, L, T, up2 F 49 0 0, ?_, ?_, R.thr 0, by omega⟩
    · by_cases h1 : j < 1
      · simp only [f_X11_feed, f_X11_feed_0, f_X11_feed_11, h1, gI_0, gI_2, gI_4, gI_9, gI_15, gI_21, gI_49, gP_0, gP_2, gP_4, gP_9, gP_15, gP_21, gP_49, gR_0, gR_2, gR_4, gR_9, gR_15, gR_21, gR_49, gL_53, gL_54, oPz_0, oPz_1, Option.bind_some, c10, c01, cm1, c00, if_true, if_false, ne_eq, not_true_eq_false, not_false_eq_true]
      · have h2 : ¬ j ≤ 8 := fun q => hj ⟨Int32.not_lt.mp h1, q⟩
        simp only [f_X11_feed, f_X11_feed_0, f_X11_feed_11, h1, h2, gI_0, gI_2, gI_4, gI_9, gI_15, gI_21, gI_49, gP_0, gP_2, gP_4, gP_9, gP_15, gP_21, gP_49, gR_0, gR_2, gR_4, gR_9, gR_15, gR_21, gR_49, gL_53, gL_54, oPz_0, oPz_1, Option.bind_some, c10, c01, cm1, c00, if_true, if_false, ne_eq, not_true_eq_false, not_false_eq_true]
    · simp only [f_X12_feed, f_X12_feed_0, X12_in18, bI_f hj, gI_0, gI_2, gI_4, gI_9, gI_15, gI_21, gI_49, gP_0, gP_2, gP_4, gP_9, gP_15, gP_21, gP_49, gR_0, gR_2, gR_4, gR_9, gR_15, gR_21, gR_49, gL_53, gL_54, oPz_0, oPz_1, Option.bind_some, c10, c01, cm1, c00, if_true, if_false, ne_eq, not_true_eq_false, not_false_eq_true]
  have h1 : ¬ j < 1 := Int32.not_lt.mpr hj.1
  have h0 : ¬ j < 0 := fun q => h1 (Int32.lt_trans q (by decide))
  obtain ⟨c, hc, rfl⟩ := nI_of2 (M := 8) (n := 8) (by decide) h0 hj.2
  have hc1 : 1 ≤ c := by
    rcases Nat.eq_zero_or_pos c with q | q
    · subst q; exact absurd (by decide) h1
    · exact q
  have e400 : (400 : Int32) - nI t = nI (400 - t) := pk_sub (a := 400) (b := t) ht
  have e8 : up2 F 49 0 0 49 8 = nI t := by simp (disch := omega) only [up2_ne, up2_o, up2_s]; exact t2
  by_cases hf : t + c ≤ 400
  case neg =>
    refine ⟨-1000003, m, F, L, T, up2 F 49 0 0, ?_, ?_, R.thr 0, by omega⟩
    · have e : nI (400 - t) < nI c := nI_lt (by omega) (by omega)
      simp only [f_X11_feed, f_X11_feed_0, f_X11_feed_39, h1, hj.2, f_X6_hasRoom, f_X6_hasRoom_0, f_X6_hasRoom_17, t1, e400, e, true_or, gI_0, gI_2, gI_4, gI_9, gI_15, gI_21, gI_49, gP_0, gP_2, gP_4, gP_9, gP_15, gP_21, gP_49, gR_0, gR_2, gR_4, gR_9, gR_15, gR_21, gR_49, gL_53, gL_54, oPz_0, oPz_1, Option.bind_some, c10, c01, cm1, c00, if_true, if_false, ne_eq, not_true_eq_false, not_false_eq_true]
    · have e : ¬ nI (t + c) ≤ 400 := nI_ge (a := 400) (b := t + c) (by omega) (by omega)
      simp only [f_X12_feed, f_X12_feed_0, X12_in18, bI_t hj, e8, nI_add, e, gI_0, gI_2, gI_4, gI_9, gI_15, gI_21, gI_49, gP_0, gP_2, gP_4, gP_9, gP_15, gP_21, gP_49, gR_0, gR_2, gR_4, gR_9, gR_15, gR_21, gR_49, gL_53, gL_54, oPz_0, oPz_1, Option.bind_some, c10, c01, cm1, c00, if_true, if_false, ne_eq, not_true_eq_false, not_false_eq_true]
  obtain ⟨F1, a1, a2, a3, a4, a5⟩ := X6_app (N := N) (m := m) (w := w) (L := L) (T := T) c N t F hf (by omega) t1
  have e8' : up2 F1 49 0 0 49 8 = nI t := by simp (disch := omega) only [up2_ne, up2_o, up2_s]; rw [a5 49 (by omega) (by omega)]; exact t2
  obtain ⟨F2, b1, b2, b6, b3, b4, b5⟩ := X12_app (N := N) (m := m) (w := w) (L := L) (T := T) c N t (up2 F1 49 0 0) hf (by omega) e8'
  refine ⟨nI (t + c), m, F1, L, T, F2, ?_, ?_, ?_, by omega⟩
  · have e : ¬ nI (400 - t) < nI c := nI_nlt (by omega) (by omega)
    simp only [f_X11_feed, f_X11_feed_0, f_X11_feed_39, h1, hj.2, f_X6_hasRoom, f_X6_hasRoom_0, f_X6_hasRoom_17, t1, e400, e, or_true, f_X6_append, f_X6_append_0, a1, gI_0, gI_2, gI_4, gI_9, gI_15, gI_21, gI_49, gP_0, gP_2, gP_4, gP_9, gP_15, gP_21, gP_49, gR_0, gR_2, gR_4, gR_9, gR_15, gR_21, gR_49, gL_53, gL_54, oPz_0, oPz_1, Option.bind_some, c10, c01, cm1, c00, if_true, if_false, ne_eq, not_true_eq_false, not_false_eq_true]
  · have e : nI (t + c) ≤ 400 := nI_le (a := t + c) (b := 400) hf (by omega)
    simp only [f_X12_feed, f_X12_feed_0, X12_in18, bI_t hj, e8', nI_add, e, b1, gI_0, gI_2, gI_4, gI_9, gI_15, gI_21, gI_49, gP_0, gP_2, gP_4, gP_9, gP_15, gP_21, gP_49, gR_0, gR_2, gR_4, gR_9, gR_15, gR_21, gR_49, gL_53, gL_54, oPz_0, oPz_1, Option.bind_some, c10, c01, cm1, c00, if_true, if_false, ne_eq, not_true_eq_false, not_false_eq_true]
  · refine R.tape ⟨t + c, hf, by rw [b5 2 (by omega) (by omega)]; simp (disch := omega) only [up2_ne, up2_o, up2_s]; exact a2, b2, fun i hi => ?_⟩ (fun p p2 p3 p41 p47 => by rw [b5 p p41 p47]; simp (disch := omega) only [up2_ne, up2_o, up2_s]; exact a5 p p2 p3) (by rw [b6 9 (by omega)]; simp (disch := omega) only [up2_ne, up2_o, up2_s]; rw [a5 49 (by omega) (by omega)]) (by rw [b6 1 (by omega)]; simp (disch := omega) only [up2_ne, up2_o, up2_s]; rw [a5 49 (by omega) (by omega)]) (by rw [b6 30 (by omega)]; simp (disch := omega) only [up2_ne, up2_o, up2_s]; rw [a5 49 (by omega) (by omega)])
    have k3 : F2 3 = F1 3 := by rw [b5 3 (by omega) (by omega)]; simp (disch := omega) only [up2_ne, up2_o, up2_s]
    have k47 : up2 F1 49 0 0 55 = F 55 := by simp (disch := omega) only [up2_ne, up2_o, up2_s]; exact a5 55 (by omega) (by omega)
    rw [k3]
    by_cases hit : i < t
    · rw [b3 i hit, k47, a3 i hit]; exact t3 i hit
    · obtain ⟨k, rfl⟩ : ∃ k, i = t + k := ⟨i - t, by omega⟩
      rw [b4 k (by omega), a4 k (by omega)]
      exact bit_fd w _
