/-- days as bits -/
def bitsN (p : Nat → Bool) (n : Nat) : Nat := sumN (fun t => if p t = true then 2 ^ t else 0) n
theorem bitsN_lt (p : Nat → Bool) (n : Nat) : bitsN p n < 2 ^ n := bits_lt n
theorem bitsN_tb (p : Nat → Bool) (n j : Nat) : (bitsN p n).testBit j = (decide (j < n) && p j) := bits_tb j n
theorem bitsN_s (p : Nat → Bool) (n : Nat) : bitsN p (n + 1) = bitsN p n + if p n = true then 2 ^ n else 0 := rfl
theorem bitsN_0 {p : Nat → Bool} {n : Nat} : bitsN p n = 0 ↔ ∀ t, t < n → p t = false := by
  constructor
  · intro h t ht
    have := bitsN_tb p n t
    rw [h, Nat.zero_testBit] at this
    simp only [ht, decide_true, Bool.true_and] at this
    exact this.symm
  · intro h
    unfold bitsN
    rw [sumN_congr (g := fun _ => 0) (fun k hk => by rw [h k hk]; rfl)]
    clear h
    induction n with
    | zero => rfl
    | succ n ih => rw [sumN, ih]
theorem bitsN_c {p q : Nat → Bool} {n : Nat} (h : ∀ t, t < n → p t = q t) : bitsN p n = bitsN q n := sumN_congr (fun k hk => by rw [h k hk])
theorem or_bit (p : Nat → Bool) {n : Nat} (hn : n < 31) : nI (bitsN p n) ||| (1 : Int32) <<< (nI n &&& 31) = nI (bitsN p n + 2 ^ n) := by
  have h := bitsN_lt p n
  rw [shl1 (by omega), fa_or, Nat.or_comm]
  have := Nat.two_pow_add_eq_or_of_lt h 1
  rw [Nat.mul_one] at this
  rw [← this, Nat.add_comm]
theorem or_0 (x : Int32) : x ||| 0 = x := by simp
theorem shN_le {P : Nat → Nat} {S w : Nat → Nat} {kp hf er d : Nat} (hn : P 3 ≤ 4) (hw : ∀ t, t < P 3 → w t ≤ 7) (hkp : kp ≤ 3) (hd : d ≤ 99) : shN P S w kp hf er d ≤ 1124 := by
  unfold shN
  refine Nat.le_trans (Nat.mod_le _ _) ?_
  have h1 := rcN_le (fun e => freshN P (S e)) kp d
  have : sumN (fun k => (loadN P (S (d - k)) w (d - k) + if d - k = er then 1 else 0) >>> (k * hf)) (rcN (fun e => freshN P (S e)) kp d + 1) ≤ 281 * (rcN (fun e => freshN P (S e)) kp d + 1) := sumN_le (fun k _ => sh_le hn hw hd)
  omega
/-- a told day that isn't so -/
def wrg (tv : Nat → Int32) (sh : Nat → Nat) (d : Nat) : Bool := decide (¬ tv d = -1 ∧ ¬ tv d = nI (sh d))
theorem wrg_f {tv : Nat → Int32} {sh : Nat → Nat} {d : Nat} (h : tv d = -1 ∨ tv d = nI (sh d)) : wrg tv sh d = false := by
  unfold wrg
  apply decide_eq_false
  rintro ⟨h1, h2⟩
  rcases h with h | h
  · exact h1 h
  · exact h2 h
theorem wrg_t {tv : Nat → Int32} {sh : Nat → Nat} {d : Nat} (h1 : ¬ tv d = -1) (h2 : ¬ tv d = nI (sh d)) : wrg tv sh d = true := decide_eq_true ⟨h1, h2⟩
theorem gap_iff {v : Int32} (h : -1 ≤ v) : v < 0 ↔ v = -1 := by
  rw [fa_lt, fa_eq]
  have := (fa_le _ _).mp h
  have e1 : (-1 : Int32).toInt = -1 := by decide
  have e0 : (0 : Int32).toInt = 0 := by decide
  omega
theorem M_wrong_l {N m r D : Nat} {G : Nat → Nat → Int32} {L : Nat → Nat → Option Nat} {T : Nat → Nat} {P S w : Nat → Nat} {kp hf er : Nat} {tv : Nat → Int32} (hN : 5000 ≤ N) (hr : r < 8) (mv : MV G P S D) (mw : MW G P w kp hf er) (h2 : P 2 ≠ 0) (h4 : P 4 ≤ 24) (hD : P 4 ≤ D) (g4 : G 53 4 = nI (P 4)) (gt : ∀ d, d < P 4 → G 52 (40 * r + d) = tv d ∧ -1 ≤ tv d) : ∀ (n i : Nat), i ≤ P 4 → P 4 < i + n → f_X12_wrongDays_4 N n (Hp m G L T) (some 49) (nI r) (nI (bitsN (wrg tv (shN P S w kp hf er)) i)) (nI i) = some (nI (bitsN (wrg tv (shN P S w kp hf er)) (P 4)), Hp m G L T) := by
  intro n
  induction n with
  | zero => intro i h1 h2; omega
  | succ n ih =>
    intro i h5 h6
    rw [f_X12_wrongDays_4]
    simp only [g4, gI_0, gI_2, gI_4, gI_9, gI_15, gI_21, gI_49, gP_0, gP_2, gP_4, gP_9, gP_15, gP_21, gP_49, gR_0, gR_2, gR_4, gR_9, gR_15, gR_21, gR_49, gL_53, gL_54, oPz_0, oPz_1, Option.bind_some, c10, c01, cm1, c00, if_true, if_false, ne_eq, not_true_eq_false, not_false_eq_true]
    by_cases hi : i = P 4
    · rw [if_pos (by rw [hi]; exact Int32.le_refl _), hi]
    · have hi' : i < P 4 := by omega
      rw [if_neg (nI_ge hi' (by omega))]
      obtain ⟨t1, t2⟩ := gt i hi'
      have ih' := ih (i + 1) (by omega) (by omega)
      rw [bitsN_s] at ih'
      simp only [ix40, (gN_52 (show 40 * r + i < 320 by omega)).1, t1, gap_iff t2, f_X12_wrongDays_49, f_X12_wrongDays_50, M_shows hN mv h2 mw (show i < D by omega), or_0, nI_1, gI_0, gI_2, gI_4, gI_9, gI_15, gI_21, gI_49, gP_0, gP_2, gP_4, gP_9, gP_15, gP_21, gP_49, gR_0, gR_2, gR_4, gR_9, gR_15, gR_21, gR_49, gL_53, gL_54, oPz_0, oPz_1, Option.bind_some, c10, c01, cm1, c00, if_true, if_false, ne_eq, not_true_eq_false, not_false_eq_true]
      by_cases hg : tv i = -1
      · rw [if_pos hg]
        rw [wrg_f (Or.inl hg), if_neg (by decide), Nat.add_zero] at ih'
        exact ih'
      · rw [if_neg hg]
        by_cases hs : tv i = nI (shN P S w kp hf er i)
        · rw [if_pos hs]
          rw [wrg_f (Or.inr hs), if_neg (by decide), Nat.add_zero] at ih'
          exact ih'
        · rw [if_neg hs, or_bit _ (by omega)]
          rw [wrg_t hg hs, if_pos rfl] at ih'
          exact ih'
theorem M_wrong {N m r D : Nat} {G : Nat → Nat → Int32} {L : Nat → Nat → Option Nat} {T : Nat → Nat} {P S w : Nat → Nat} {kp hf er : Nat} {tv : Nat → Int32} (hN : 5000 ≤ N) (hr : r < 8) (mv : MV G P S D) (mw : MW G P w kp hf er) (h2 : P 2 ≠ 0) (h4 : P 4 ≤ 24) (hD : P 4 ≤ D) (g4 : G 53 4 = nI (P 4)) (gt : ∀ d, d < P 4 → G 52 (40 * r + d) = tv d ∧ -1 ≤ tv d) : f_X12_wrongDays N (Hp m G L T) (some 49) (nI r) = some (nI (bitsN (wrg tv (shN P S w kp hf er)) (P 4)), Hp m G L T) :=
  M_wrong_l hN hr mv mw h2 h4 hD g4 gt N 0 (by omega) (by omega)
theorem C_tells_l {N m r D : Nat} {F : Nat → Nat → Int32} {L : Nat → Nat → Option Nat} {T : Nat → Nat} {P S : Nat → Nat} {kp hf : Nat} (hN : 5000 ≤ N) (hr : r < 8) (cv : CV m F L T P S D) (hkp : kp ≤ 3) (hhf : hf ≤ 1) (h4 : P 4 ≤ 24) (hD : P 4 ≤ D) (c5 : F 4 5 = nI (P 4)) : ∀ (n i : Nat), i ≤ P 4 → P 4 < i + n → bitsN (wrg (F (24 + 2 * r)) (shN P S (truN P) kp hf 1000)) i = 0 → f_X2_tellsBy_3 N n (Hp m F L T) (some 4) (nI kp) (nI hf) (some (24 + 2 * r)) (nI i) = some (bB (decide (bitsN (wrg (F (24 + 2 * r)) (shN P S (truN P) kp hf 1000)) (P 4) = 0)), Hp m F L T) := by
  intro n
  induction n with
  | zero => intro i h1 h2; omega
  | succ n ih =>
    intro i h5 h6 h7
    rw [f_X2_tellsBy_3]
    simp only [c5, gI_0, gI_2, gI_4, gI_9, gI_15, gI_21, gI_49, gP_0, gP_2, gP_4, gP_9, gP_15, gP_21, gP_49, gR_0, gR_2, gR_4, gR_9, gR_15, gR_21, gR_49, gL_53, gL_54, oPz_0, oPz_1, Option.bind_some, c10, c01, cm1, c00, if_true, if_false, ne_eq, not_true_eq_false, not_false_eq_true]
    by_cases hi : i = P 4
    · rw [if_pos (by rw [hi]; exact Int32.le_refl _), ← hi, h7]; rfl
    · have hi' : i < P 4 := by omega
      rw [if_neg (nI_ge hi' (by omega))]
      have ih' := ih (i + 1) (by omega) (by omega)
      rw [bitsN_s, h7, Nat.zero_add] at ih'
      simp only [(gN_r hr (show i < 40 by omega)).1, f_X2_tellsBy_38, C_shownBy hN cv (show i < D by omega) hkp hhf em1, nI_1, gI_0, gI_2, gI_4, gI_9, gI_15, gI_21, gI_49, gP_0, gP_2, gP_4, gP_9, gP_15, gP_21, gP_49, gR_0, gR_2, gR_4, gR_9, gR_15, gR_21, gR_49, gL_53, gL_54, oPz_0, oPz_1, Option.bind_some, c10, c01, cm1, c00, if_true, if_false, ne_eq, not_true_eq_false, not_false_eq_true]
      by_cases hg : F (24 + 2 * r) i = -1
      · rw [if_pos hg]
        exact ih' (by rw [wrg_f (Or.inl hg)]; rfl)
      · rw [if_neg hg]
        by_cases hs : F (24 + 2 * r) i = nI (shN P S (truN P) kp hf 1000 i)
        · rw [if_pos hs]
          exact ih' (by rw [wrg_f (Or.inr hs)]; rfl)
        · rw [if_neg hs, if_pos (Or.inl trivial), decide_eq_false (fun q => by
            have := bitsN_0.mp q i hi'
            rw [wrg_t hg hs] at this
            exact absurd this (by decide))]
          rfl
theorem C_tells {N m r D : Nat} {F : Nat → Nat → Int32} {L : Nat → Nat → Option Nat} {T : Nat → Nat} {P S : Nat → Nat} {kp hf : Nat} (hN : 5000 ≤ N) (hr : r < 8) (cv : CV m F L T P S D) (hkp : kp ≤ 3) (hhf : hf ≤ 1) (h4 : P 4 ≤ 24) (hD : P 4 ≤ D) (c5 : F 4 5 = nI (P 4)) : f_X2_tellsBy N (Hp m F L T) (some 4) (nI kp) (nI hf) (some (24 + 2 * r)) = some (bB (decide (bitsN (wrg (F (24 + 2 * r)) (shN P S (truN P) kp hf 1000)) (P 4) = 0)), Hp m F L T) :=
  C_tells_l hN hr cv hkp hhf h4 hD c5 N 0 (by omega) (by omega) rfl
/-- WHO MAY TELL: the class's refusal and the reference's bar -/
theorem X11_scan {N m r : Nat} {F : Nat → Nat → Int32} {L : Nat → Nat → Option Nat} {T : Nat → Nat} {P : Nat → Nat} (hr : r < 8) (h4 : P 4 ≤ 24) (c5 : F 4 5 = nI (P 4)) : ∀ (n i : Nat), i ≤ P 4 → P 4 < i + n → (∀ d, d < i → -1 ≤ F (24 + 2 * r) d) → f_X11_refusalToTell_70 N n (Hp m F L T) (some 0) (some (23 + 2 * r)) (nI i) = some (if ∀ d, d < P 4 → -1 ≤ F (24 + 2 * r) d then 0 else -1000001, Hp m F L T) := by
  intro n
  induction n with
  | zero => intro i h1 h2; omega
  | succ n ih =>
    intro i h5 h6 h7
    rw [f_X11_refusalToTell_70]
    simp only [c5, gI_0, gI_2, gI_4, gI_9, gI_15, gI_21, gI_49, gP_0, gP_2, gP_4, gP_9, gP_15, gP_21, gP_49, gR_0, gR_2, gR_4, gR_9, gR_15, gR_21, gR_49, gL_53, gL_54, oPz_0, oPz_1, Option.bind_some, c10, c01, cm1, c00, if_true, if_false, ne_eq, not_true_eq_false, not_false_eq_true]
    by_cases hi : i = P 4
    · rw [if_pos (by rw [hi]; exact Int32.le_refl _), if_pos (by rw [← hi]; exact h7)]
    · have hi' : i < P 4 := by omega
      rw [if_neg (nI_ge hi' (by omega))]
      simp only [gR_r hr, (gN_r hr (show i < 40 by omega)).1, nI_1, gI_0, gI_2, gI_4, gI_9, gI_15, gI_21, gI_49, gP_0, gP_2, gP_4, gP_9, gP_15, gP_21, gP_49, gR_0, gR_2, gR_4, gR_9, gR_15, gR_21, gR_49, gL_53, gL_54, oPz_0, oPz_1, Option.bind_some, c10, c01, cm1, c00, if_true, if_false, ne_eq, not_true_eq_false, not_false_eq_true]
      by_cases hg : -1 ≤ F (24 + 2 * r) i
      · rw [if_pos hg]
        exact ih (i + 1) (by omega) (by omega) (fun d hd => by
          by_cases q : d = i
          · rw [q]; exact hg
          · exact h7 d (by omega))
      · rw [if_neg hg, if_neg (fun q => hg (q i hi'))]
theorem X12_scan {N m r : Nat} {F : Nat → Nat → Int32} {L : Nat → Nat → Option Nat} {T : Nat → Nat} {P : Nat → Nat} {tv : Nat → Int32} {res : Option (Int32 × hP)} (hr : r < 8) (h4 : P 4 ≤ 24) (m4 : F 53 4 = nI (P 4)) (ht : ∀ d, d < P 4 → F 52 (40 * r + d) = tv d) (hres : ((oP (Hp m F L T) (some 49) 11 1 (.int (0 : Int32))).bind fun A3 => (oCk A3 (some 49) 11).bind fun _ => (f_X12_layTruly N A3 (some 49)).bind fun q4 => some ((0 : Int32), q4.2)) = res) : ∀ (n i : Nat), i ≤ P 4 → P 4 < i + n → (∀ d, d < i → -1 ≤ tv d) → f_X12_barred_62 N n (Hp m F L T) (some 49) (nI r) (nI i) = if ∀ d, d < P 4 → -1 ≤ tv d then res else some (-1000001, Hp m F L T) := by
  intro n
  induction n with
  | zero => intro i h1 h2; omega
  | succ n ih =>
    intro i h5 h6 h7
    rw [f_X12_barred_62]
    simp only [m4, gR_49, gL_53, Option.bind_some]
    by_cases hi : i = P 4
    · rw [if_pos (by rw [hi]; exact Int32.le_refl _), if_pos (by rw [← hi]; exact h7)]
      exact hres
    · have hi' : i < P 4 := by omega
      rw [if_neg (nI_ge hi' (by omega))]
      simp only [ix40, (gN_52 (show 40 * r + i < 320 by omega)).1, ht i hi', nI_1, Option.bind_some]
      by_cases hg : -1 ≤ tv i
      · rw [if_pos hg]
        exact ih (i + 1) (by omega) (by omega) (fun d hd => by
          by_cases q : d = i
          · rw [q]; exact hg
          · exact h7 d (by omega))
      · rw [if_neg hg, if_neg (fun q => hg (q i hi'))]
theorem Rel.fnd2 {m : Nat} {F : Nat → Nat → Int32} {L : Nat → Nat → Option Nat} {T : Nat → Nat} (h : Rel m F L T) (v : Int32) : Rel m (up2 (up2 (up2 F 0 8 v) 49 0 0) 49 1 v) L T := by
  refine h.xm (fun p h0 h1 => ?_) ?_ ?_ ?_ ?_
  · rw [up2_ne h1, up2_ne h1, up2_ne h0]
  · simpa [up2, up, upd] using h.2.2.2.2.1
  · simp [up2, up, upd]
  · simp [up2, up, upd]
  · simp [up2, up, upd]
/-- refused on both sides alike -/
def Refd (N m : Nat) (F : Nat → Nat → Int32) (L : Nat → Nat → Option Nat) (T : Nat → Nat) (r x y : Int32) : Prop :=
  ∃ (v : Int32) (F1 F2 : Nat → Nat → Int32), f_X11_refusalToTell N (Hp m F L T) (some 0) r x = some (v, Hp m F1 L T) ∧ ¬ v = 0 ∧ ¬ 0 ≤ v ∧ f_X12_barred N (Hp m (up2 F1 49 0 0) L T) (some 49) r y = some (v, Hp m F2 L T) ∧ Rel m F2 L T ∧ F1 53 = F 53
def Tel (N m : Nat) (F : Nat → Nat → Int32) (L : Nat → Nat → Option Nat) (T : Nat → Nat) (P : Nat → Nat) (r : Int32) : Prop :=
  P 2 ≠ 0 ∧ ∃ q, q < 8 ∧ r = nI q ∧ (∀ d, d < P 4 → -1 ≤ F (24 + 2 * q) d ∧ F 52 (40 * q + d) = F (24 + 2 * q) d) ∧ f_X11_refusalToTell N (Hp m F L T) (some 0) r 0 = some (0, Hp m F L T) ∧ ∀ F1 : Nat → Nat → Int32, F1 50 = F 50 → F1 51 = F 51 → F1 52 = F 52 → (∀ i, i < 13 + P 4 → F1 53 i = F 53 i) → ∃ G, f_X12_barred N (Hp m (up2 F1 49 0 0) L T) (some 49) r 1 = some (0, Hp m G L T) ∧ Lay (up2 (up2 F1 49 0 0) 49 1 0) G ∧ MW G P (truN P) (P 0) (P 1) 1000
theorem tell {N m : Nat} {F : Nat → Nat → Int32} {L : Nat → Nat → Option Nat} {T : Nat → Nat} {P : Nat → Nat} (hN : 5000 ≤ N) (R : Rel m F L T) (pv : PV P) (pm : PM (F 53) P) (pc : PC m F L T 4 P) (r : Int32) (ok : Bool) : Refd N m F L T r (bB (!ok)) (bB ok) ∨ ok = true ∧ Tel N m F L T P r := by
  have v2 : P 2 ≤ 200 := pv.2.2.1
  have v3 : P 3 ≤ 4 := pv.2.2.2.1
  have v4 : P 4 ≤ 24 := pv.2.2.2.2.1
  have c0 := pc.1
  have c5 : F 4 5 = nI (P 4) := pc.2.2.2.2.2.1
  have m2 : up2 F 49 0 0 53 2 = nI (P 2) := by simp (disch := omega) only [up2_ne, up2_o, up2_s]; exact pm.1 2 (by omega)
  by_cases hp2 : P 2 = 0
  · rw [if_pos hp2] at c0
    refine Or.inl ⟨-1000002, F, up2 F 49 0 0, ?_, by decide, by decide, ?_, R.thr 0, rfl⟩
    · simp only [f_X11_refusalToTell, f_X11_refusalToTell_0, c0, gI_0, gI_2, gI_4, gI_9, gI_15, gI_21, gI_49, gP_0, gP_2, gP_4, gP_9, gP_15, gP_21, gP_49, gR_0, gR_2, gR_4, gR_9, gR_15, gR_21, gR_49, gL_53, gL_54, oPz_0, oPz_1, Option.bind_some, c10, c01, cm1, c00, if_true, if_false, ne_eq, not_true_eq_false, not_false_eq_true]
    · simp only [f_X12_barred, f_X12_barred_0, M_there_n m2 hp2, gI_0, gI_2, gI_4, gI_9, gI_15, gI_21, gI_49, gP_0, gP_2, gP_4, gP_9, gP_15, gP_21, gP_49, gR_0, gR_2, gR_4, gR_9, gR_15, gR_21, gR_49, gL_53, gL_54, oPz_0, oPz_1, Option.bind_some, c10, c01, cm1, c00, if_true, if_false, ne_eq, not_true_eq_false, not_false_eq_true]
  rw [if_neg hp2] at c0
  by_cases hok : ok = true
  case neg =>
    have hok' := (Bool.not_eq_true _).mp hok
    subst hok'
    refine Or.inl ⟨-1000001, F, up2 F 49 0 0, ?_, by decide, by decide, ?_, R.thr 0, rfl⟩
    · simp only [f_X11_refusalToTell, f_X11_refusalToTell_0, f_X11_refusalToTell_24, c0, Bool.not_false, bB_t, gI_0, gI_2, gI_4, gI_9, gI_15, gI_21, gI_49, gP_0, gP_2, gP_4, gP_9, gP_15, gP_21, gP_49, gR_0, gR_2, gR_4, gR_9, gR_15, gR_21, gR_49, gL_53, gL_54, oPz_0, oPz_1, Option.bind_some, c10, c01, cm1, c00, if_true, if_false, ne_eq, not_true_eq_false, not_false_eq_true]
    · rcases pk_ix r (n := 8) (by decide) with h | h | ⟨q, hq, rfl⟩
      · simp only [f_X12_barred, f_X12_barred_0, f_X12_barred_21, M_there_y m2 hp2 v2, X12_isRow_n (Or.inl h), bB_f, gI_0, gI_2, gI_4, gI_9, gI_15, gI_21, gI_49, gP_0, gP_2, gP_4, gP_9, gP_15, gP_21, gP_49, gR_0, gR_2, gR_4, gR_9, gR_15, gR_21, gR_49, gL_53, gL_54, oPz_0, oPz_1, Option.bind_some, c10, c01, cm1, c00, if_true, if_false, ne_eq, not_true_eq_false, not_false_eq_true]
      · simp only [f_X12_barred, f_X12_barred_0, f_X12_barred_21, M_there_y m2 hp2 v2, X12_isRow_n (Or.inr h), bB_f, gI_0, gI_2, gI_4, gI_9, gI_15, gI_21, gI_49, gP_0, gP_2, gP_4, gP_9, gP_15, gP_21, gP_49, gR_0, gR_2, gR_4, gR_9, gR_15, gR_21, gR_49, gL_53, gL_54, oPz_0, oPz_1, Option.bind_some, c10, c01, cm1, c00, if_true, if_false, ne_eq, not_true_eq_false, not_false_eq_true]
      · simp only [f_X12_barred, f_X12_barred_0, f_X12_barred_21, M_there_y m2 hp2 v2, X12_isRow_y hq, bB_f, gI_0, gI_2, gI_4, gI_9, gI_15, gI_21, gI_49, gP_0, gP_2, gP_4, gP_9, gP_15, gP_21, gP_49, gR_0, gR_2, gR_4, gR_9, gR_15, gR_21, gR_49, gL_53, gL_54, oPz_0, oPz_1, Option.bind_some, c10, c01, cm1, c00, if_true, if_false, ne_eq, not_true_eq_false, not_false_eq_true]
  subst hok
  have bad : (r < 0 ∨ nI 8 ≤ r) → Refd N m F L T r (bB (!true)) (bB true) := by
    intro h
    refine ⟨-1000001, F, up2 F 49 0 0, ?_, by decide, by decide, ?_, R.thr 0, rfl⟩
    · simp only [f_X11_refusalToTell, f_X11_refusalToTell_0, f_X11_refusalToTell_24, c0, Bool.not_true, bB_f, X11_isRow_n h, gI_0, gI_2, gI_4, gI_9, gI_15, gI_21, gI_49, gP_0, gP_2, gP_4, gP_9, gP_15, gP_21, gP_49, gR_0, gR_2, gR_4, gR_9, gR_15, gR_21, gR_49, gL_53, gL_54, oPz_0, oPz_1, Option.bind_some, c10, c01, cm1, c00, if_true, if_false, ne_eq, not_true_eq_false, not_false_eq_true]
    · simp only [f_X12_barred, f_X12_barred_0, f_X12_barred_21, M_there_y m2 hp2 v2, X12_isRow_n h, bB_t, gI_0, gI_2, gI_4, gI_9, gI_15, gI_21, gI_49, gP_0, gP_2, gP_4, gP_9, gP_15, gP_21, gP_49, gR_0, gR_2, gR_4, gR_9, gR_15, gR_21, gR_49, gL_53, gL_54, oPz_0, oPz_1, Option.bind_some, c10, c01, cm1, c00, if_true, if_false, ne_eq, not_true_eq_false, not_false_eq_true]
  rcases pk_ix r (n := 8) (by decide) with h | h | ⟨q, hq, rfl⟩
  · exact Or.inl (bad (Or.inl h))
  · exact Or.inl (bad (Or.inr h))
  clear bad
  obtain ⟨h1, h2, ⟨s, hs, h3⟩, h4⟩ := R.1 q hq
  rcases h1 with ⟨h5, h6⟩ | ⟨h5, h6, h7⟩
  · refine Or.inl ⟨-1000011, up2 F 0 8 1, up2 (up2 (up2 F 0 8 1) 49 0 0) 49 1 1, ?_, by decide, by decide, ?_, R.fnd2 1, by simp (disch := omega) only [up2_ne, up2_o, up2_s]⟩
    · simp only [f_X11_refusalToTell, f_X11_refusalToTell_0, c0, Bool.not_true, bB_f, X11_isRow_y hq, gN_1 hq, gI_r0 hq, h5, f_X11_found, f_X11_found_0, gI_0, gI_2, gI_4, gI_9, gI_15, gI_21, gI_49, gP_0, gP_2, gP_4, gP_9, gP_15, gP_21, gP_49, gR_0, gR_2, gR_4, gR_9, gR_15, gR_21, gR_49, gL_53, gL_54, oPz_0, oPz_1, Option.bind_some, c10, c01, cm1, c00, if_true, if_false, ne_eq, not_true_eq_false, not_false_eq_true]
      rfl
    · have e2 : up2 (up2 F 0 8 1) 49 0 0 53 2 = nI (P 2) := by simp (disch := omega) only [up2_ne, up2_o, up2_s]; exact pm.1 2 (by omega)
      have e1 : up2 (up2 F 0 8 1) 49 0 0 50 q = -1 := by simp (disch := omega) only [up2_ne, up2_o, up2_s]; exact h6
      simp only [f_X12_barred, f_X12_barred_0, M_there_y e2 hp2 v2, X12_isRow_y hq, bB_t, (gN_50 hq).1, e1, f_X12_finding, f_X12_finding_0, gI_0, gI_2, gI_4, gI_9, gI_15, gI_21, gI_49, gP_0, gP_2, gP_4, gP_9, gP_15, gP_21, gP_49, gR_0, gR_2, gR_4, gR_9, gR_15, gR_21, gR_49, gL_53, gL_54, oPz_0, oPz_1, Option.bind_some, c10, c01, cm1, c00, if_true, if_false, ne_eq, not_true_eq_false, not_false_eq_true]
      rfl
  have lane : ((0 : Int32) ≤ F 50 q) = True := eq_true (by rcases h7 with h | h | h <;> rw [h] <;> decide)
  have h3' : F (23 + 2 * q) 2 = nI s := h2.symm.trans h3
  by_cases hs4 : P 4 ≤ s
  case neg =>
    have e : ¬ nI (P 4) ≤ nI s := nI_ge (by omega) (by omega)
    refine Or.inl ⟨-1000012, up2 F 0 8 2, up2 (up2 (up2 F 0 8 2) 49 0 0) 49 1 2, ?_, by decide, by decide, ?_, R.fnd2 2, by simp (disch := omega) only [up2_ne, up2_o, up2_s]⟩
    · simp only [f_X11_refusalToTell, f_X11_refusalToTell_0, c0, Bool.not_true, bB_f, X11_isRow_y hq, gN_1 hq, gI_r0 hq, gI_r2 hq, h5, h3', c5, e, f_X11_found, f_X11_found_0, gI_0, gI_2, gI_4, gI_9, gI_15, gI_21, gI_49, gP_0, gP_2, gP_4, gP_9, gP_15, gP_21, gP_49, gR_0, gR_2, gR_4, gR_9, gR_15, gR_21, gR_49, gL_53, gL_54, oPz_0, oPz_1, Option.bind_some, c10, c01, cm1, c00, if_true, if_false, ne_eq, not_true_eq_false, not_false_eq_true]
      rfl
    · have e2 : up2 (up2 F 0 8 2) 49 0 0 53 2 = nI (P 2) := by simp (disch := omega) only [up2_ne, up2_o, up2_s]; exact pm.1 2 (by omega)
      have e4 : up2 (up2 F 0 8 2) 49 0 0 53 4 = nI (P 4) := by simp (disch := omega) only [up2_ne, up2_o, up2_s]; exact pm.1 4 (by omega)
      have e1 : up2 (up2 F 0 8 2) 49 0 0 50 q = F 50 q := by simp (disch := omega) only [up2_ne, up2_o, up2_s]
      have e3 : up2 (up2 F 0 8 2) 49 0 0 51 q = nI s := by simp (disch := omega) only [up2_ne, up2_o, up2_s]; exact h3
      simp only [f_X12_barred, f_X12_barred_0, M_there_y e2 hp2 v2, X12_isRow_y hq, bB_t, (gN_50 hq).1, (gN_51 hq).1, e1, e3, e4, lane, e, f_X12_finding, f_X12_finding_0, gI_0, gI_2, gI_4, gI_9, gI_15, gI_21, gI_49, gP_0, gP_2, gP_4, gP_9, gP_15, gP_21, gP_49, gR_0, gR_2, gR_4, gR_9, gR_15, gR_21, gR_49, gL_53, gL_54, oPz_0, oPz_1, Option.bind_some, c10, c01, cm1, c00, if_true, if_false, ne_eq, not_true_eq_false, not_false_eq_true]
      rfl
  have es : (nI (P 4) ≤ nI s) = True := eq_true (nI_le hs4 (by omega))
  have scanC := X11_scan (N := N) (m := m) (L := L) (T := T) hq v4 c5 N 0 (by omega) (by omega) (fun d hd => by omega)
  have ht : ∀ d, d < P 4 → F 52 (40 * q + d) = F (24 + 2 * q) d := fun d hd => h4 d (by omega)
  have rc : f_X11_refusalToTell N (Hp m F L T) (some 0) (nI q) 0 = some (if ∀ d, d < P 4 → -1 ≤ F (24 + 2 * q) d then 0 else -1000001, Hp m F L T) := by
    simp only [f_X11_refusalToTell, f_X11_refusalToTell_0, c0, X11_isRow_y hq, gN_1 hq, gI_r0 hq, gI_r2 hq, h5, h3', c5, es, gI_0, gI_2, gI_4, gI_9, gI_15, gI_21, gI_49, gP_0, gP_2, gP_4, gP_9, gP_15, gP_21, gP_49, gR_0, gR_2, gR_4, gR_9, gR_15, gR_21, gR_49, gL_53, gL_54, oPz_0, oPz_1, Option.bind_some, c10, c01, cm1, c00, if_true, if_false, ne_eq, not_true_eq_false, not_false_eq_true]
    exact scanC
  have rm : ∀ F1 : Nat → Nat → Int32, F1 50 = F 50 → F1 51 = F 51 → F1 52 = F 52 → (∀ i, i < 13 + P 4 → F1 53 i = F 53 i) → f_X12_barred N (Hp m (up2 F1 49 0 0) L T) (some 49) (nI q) 1 = if ∀ d, d < P 4 → -1 ≤ F (24 + 2 * q) d then ((oP (Hp m (up2 F1 49 0 0) L T) (some 49) 11 1 (.int (0 : Int32))).bind fun A3 => (oCk A3 (some 49) 11).bind fun _ => (f_X12_layTruly N A3 (some 49)).bind fun q4 => some ((0 : Int32), q4.2)) else some (-1000001, Hp m (up2 F1 49 0 0) L T) := by
    intro F1 a42 a43 a44 a45
    have e2 : up2 F1 49 0 0 53 2 = nI (P 2) := by simp (disch := omega) only [up2_ne, up2_o, up2_s]; rw [a45 2 (by omega)]; exact pm.1 2 (by omega)
    have e4 : up2 F1 49 0 0 53 4 = nI (P 4) := by simp (disch := omega) only [up2_ne, up2_o, up2_s]; rw [a45 4 (by omega)]; exact pm.1 4 (by omega)
    have e1 : up2 F1 49 0 0 50 q = F 50 q := by simp (disch := omega) only [up2_ne, up2_o, up2_s]; rw [a42]
    have e3 : up2 F1 49 0 0 51 q = nI s := by simp (disch := omega) only [up2_ne, up2_o, up2_s]; rw [a43]; exact h3
    have scanM := X12_scan (N := N) (m := m) (L := L) (T := T) (tv := F (24 + 2 * q)) hq v4 e4 (fun d hd => by simp (disch := omega) only [up2_ne, up2_o, up2_s]; rw [a44]; exact ht d hd) rfl N 0 (by omega) (by omega) (fun d hd => by omega)
    simp only [f_X12_barred, f_X12_barred_0, M_there_y e2 hp2 v2, X12_isRow_y hq, (gN_50 hq).1, (gN_51 hq).1, e1, e3, e4, lane, es, gI_49, gR_49, gL_53, c10, Option.bind_some, if_true, if_false]
    exact scanM
  by_cases hall : ∀ d, d < P 4 → -1 ≤ F (24 + 2 * q) d
  case neg =>
    rw [if_neg hall] at rc
    have rm0 := rm F rfl rfl rfl (fun _ _ => rfl)
    rw [if_neg hall] at rm0
    exact Or.inl ⟨-1000001, F, up2 F 49 0 0, rc, by decide, by decide, rm0, R.thr 0, rfl⟩
  rw [if_pos hall] at rc
  refine Or.inr ⟨rfl, hp2, q, hq, rfl, fun d hd => ⟨hall d hd, ht d hd⟩, rc, fun F1 a42 a43 a44 a45 => ?_⟩
  have rm1 := rm F1 a42 a43 a44 a45
  rw [if_pos hall] at rm1
  have e45 : ∀ i, i < 13 + P 4 → up2 (up2 F1 49 0 0) 49 1 0 53 i = F 53 i := fun i hi => by simp (disch := omega) only [up2_ne, up2_o, up2_s]; exact a45 i hi
  obtain ⟨G, g1, g2, g3⟩ := M_truly (N := N) (m := m) (F := up2 (up2 F1 49 0 0) 49 1 0) (L := L) (T := T) hN pv (by rw [e45 0 (by omega)]; exact pm.1 0 (by omega)) (by rw [e45 1 (by omega)]; exact pm.1 1 (by omega)) (by rw [e45 3 (by omega)]; exact pm.1 3 (by omega)) (fun i hi => by rw [e45 _ (by omega)]; exact (pm.2.1 i hi).2)
  refine ⟨G, ?_, g2, g3⟩
  rw [rm1]
  simp only [g1, gI_0, gI_2, gI_4, gI_9, gI_15, gI_21, gI_49, gP_0, gP_2, gP_4, gP_9, gP_15, gP_21, gP_49, gR_0, gR_2, gR_4, gR_9, gR_15, gR_21, gR_49, gL_53, gL_54, oPz_0, oPz_1, Option.bind_some, c10, c01, cm1, c00, if_true, if_false, ne_eq, not_true_eq_false, not_false_eq_true]
