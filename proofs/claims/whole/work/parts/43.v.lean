-- SOON: the mathematics
theorem rcN_c {fr fr' : Nat → Bool} : ∀ (k d : Nat), (∀ e, e ≤ d → fr e = fr' e) → rcN fr k d = rcN fr' k d
  | 0, _, _ => rfl
  | k + 1, d, h => by rw [rcN, rcN, h d (Nat.le_refl _), rcN_c k (d - 1) (fun e he => h e (by omega))]
theorem shN_c {P S S' w : Nat → Nat} {kp hf er d : Nat} (h : ∀ e, e ≤ d → S e = S' e) : shN P S w kp hf er d = shN P S' w kp hf er d := by
  unfold shN
  rw [rcN_c (fr := fun e => freshN P (S e)) (fr' := fun e => freshN P (S' e)) kp d (fun e he => by simp only [h e he])]
  congr 1
  exact sumN_congr (fun k _ => by rw [h (d - k) (by omega)])
theorem shN_w {P S w w' : Nat → Nat} {kp hf er d : Nat} (h : ∀ t, t < P 3 → w t = w' t) : shN P S w kp hf er d = shN P S w' kp hf er d := by
  unfold shN
  congr 1
  refine sumN_congr (fun k _ => ?_)
  congr 2
  unfold loadN
  exact sumN_congr (fun t ht => by rw [h t ht])
theorem shW_c {P S S' : Nat → Nat} {x d : Nat} (h : ∀ e, e ≤ d → S e = S' e) : shW P S x d = shW P S' x d := shN_c h
theorem shT_c {P S S' : Nat → Nat} {d : Nat} (h : ∀ e, e ≤ d → S e = S' e) : shT P S d = shT P S' d := shN_c h
theorem dayT_c {F : Nat → Nat → Int32} {P S S' : Nat → Nat} {d : Nat} (t : dayT F P S d) (h : ∀ e, e ≤ d → S e = S' e) : dayT F P S' d := by
  refine ⟨?_, fun x hx => ?_⟩
  · rw [t.1, rcN_c (fr := fun e => freshN P (S e)) (fr' := fun e => freshN P (S' e)) (P 0) d (fun e he => by simp only [h e he])]
  · rw [← h d (Nat.le_refl _)]; exact t.2 x hx
/-- the true world -/
def truW (P : Nat → Nat) : Nat := sumN (fun t => P (6 + 2 * t) * 8 ^ t) (P 3)
theorem truW_lt {P : Nat → Nat} (hw : ∀ t, t < P 3 → P (6 + 2 * t) ≤ 7) : ∀ n, n ≤ P 3 → sumN (fun t => P (6 + 2 * t) * 8 ^ t) n < 8 ^ n
  | 0, _ => by simp [sumN]
  | n + 1, h => by
    have h1 := truW_lt hw n (by omega)
    have h2 := hw n (by omega)
    have h3 : P (6 + 2 * n) * 8 ^ n ≤ 7 * 8 ^ n := Nat.mul_le_mul_right _ h2
    rw [sumN, Nat.pow_succ]
    omega
theorem truW_wld {P : Nat → Nat} (h3 : P 3 ≤ 4) (hw : ∀ t, t < P 3 → P (6 + 2 * t) ≤ 7) : ∀ t, t < P 3 → wldN (truW P) t = truN P t := by
  intro t ht
  unfold wldN truW truN
  rcases (show P 3 = 0 ∨ P 3 = 1 ∨ P 3 = 2 ∨ P 3 = 3 ∨ P 3 = 4 by omega) with h | h | h | h | h
  · omega
  · have w0 := hw 0 (by omega)
    rw [h]
    rcases (show t = 0 by omega) with rfl
    simp only [sumN, Nat.mul_zero, Nat.add_zero, Nat.reducePow, Nat.reduceMul, Nat.reduceAdd, Nat.div_one, Nat.mul_one, Nat.zero_add] at *
    omega
  · have w0 := hw 0 (by omega)
    have w1 := hw 1 (by omega)
    rw [h]
    rcases (show t = 0 ∨ t = 1 by omega) with rfl | rfl <;> simp only [sumN, Nat.mul_zero, Nat.add_zero, Nat.reducePow, Nat.reduceMul, Nat.reduceAdd, Nat.div_one, Nat.mul_one, Nat.zero_add] at * <;> omega
  · have w0 := hw 0 (by omega)
    have w1 := hw 1 (by omega)
    have w2 := hw 2 (by omega)
    rw [h]
    rcases (show t = 0 ∨ t = 1 ∨ t = 2 by omega) with rfl | rfl | rfl <;> simp only [sumN, Nat.mul_zero, Nat.add_zero, Nat.reducePow, Nat.reduceMul, Nat.reduceAdd, Nat.div_one, Nat.mul_one, Nat.zero_add] at * <;> omega
  · have w0 := hw 0 (by omega)
    have w1 := hw 1 (by omega)
    have w2 := hw 2 (by omega)
    have w3 := hw 3 (by omega)
    rw [h]
    rcases (show t = 0 ∨ t = 1 ∨ t = 2 ∨ t = 3 by omega) with rfl | rfl | rfl | rfl <;> simp only [sumN, Nat.mul_zero, Nat.add_zero, Nat.reducePow, Nat.reduceMul, Nat.reduceAdd, Nat.div_one, Nat.mul_one, Nat.zero_add] at * <;> omega
theorem shW_tru {P S : Nat → Nat} {d : Nat} (pv : PV P) : shW P S (truW P) d = shT P S d :=
  shN_w (truW_wld pv.2.2.2.1 (fun t ht => (pv.2.2.2.2.2.2.2.1 t ht).2.2))
theorem truW_lt8 {P : Nat → Nat} (pv : PV P) : truW P < 8 ^ P 3 := truW_lt (fun t ht => (pv.2.2.2.2.2.2.2.1 t ht).2.2) _ (Nat.le_refl _)
theorem fit_tru {P S : Nat → Nat} {n : Nat} (pv : PV P) : fitT P S n (truW P) := fun d _ => shW_tru pv
theorem fitT_s {P S : Nat → Nat} {n x : Nat} : fitT P S (n + 1) x ↔ fitT P S n x ∧ shW P S x n = shT P S n := by
  constructor
  · intro h
    exact ⟨fun d hd => h d (by omega), h n (by omega)⟩
  · rintro ⟨h1, h2⟩ d hd
    by_cases q : d = n
    · rw [q]; exact h2
    · exact h1 d (by omega)
theorem fitT_c {P S S' : Nat → Nat} {n x : Nat} (h : ∀ e, e < n → S e = S' e) : fitT P S n x ↔ fitT P S' n x := by
  constructor
  · intro q d hd
    rw [← shW_c (S := S) (fun e he => h e (by omega)), ← shT_c (S := S) (fun e he => h e (by omega))]
    exact q d hd
  · intro q d hd
    rw [shW_c (S' := S') (fun e he => h e (by omega)), shT_c (S' := S') (fun e he => h e (by omega))]
    exact q d hd
theorem oneT_iff {P S : Nat → Nat} {n : Nat} (pv : PV P) : oneT P S n ↔ ∀ y, y < 8 ^ P 3 → fitT P S n y → y = truW P := by
  constructor
  · rintro ⟨x, h1, h2, h3⟩ y hy hf
    rw [h3 y hy hf, h3 (truW P) (truW_lt8 pv) (fit_tru pv)]
  · intro h
    exact ⟨truW P, truW_lt8 pv, fit_tru pv, h⟩
theorem cnt_pos {p : Nat → Bool} {n x : Nat} (h : x < n) (hp : p x = true) : 1 ≤ fa_cnt p n := by
  have := cnt_mono (p := p) (show x + 1 ≤ n by omega)
  rw [fa_cnt_yes hp] at this
  omega
theorem cnt_two {p : Nat → Bool} {n x y : Nat} (hxy : x < y) (h : y < n) (hx : p x = true) (hy : p y = true) : 2 ≤ fa_cnt p n := by
  have := cnt_mono (p := p) (show y + 1 ≤ n by omega)
  rw [fa_cnt_yes hy] at this
  have := cnt_pos hxy hx
  omega
theorem cnt_one {p : Nat → Bool} : ∀ {n : Nat}, fa_cnt p n ≤ 1 → ∀ x y, x < n → y < n → p x = true → p y = true → x = y := by
  intro n h x y hx hy px py
  rcases Nat.lt_trichotomy x y with q | q | q
  · have := cnt_two q hy px py; omega
  · exact q
  · have := cnt_two q hx py px; omega
theorem cnt_le1 {p : Nat → Bool} : ∀ {n : Nat}, (∀ x y, x < n → y < n → p x = true → p y = true → x = y) → fa_cnt p n ≤ 1
  | 0, _ => by simp [fa_cnt]
  | n + 1, h => by
    have ih := cnt_le1 (p := p) (n := n) (fun x y hx hy => h x y (by omega) (by omega))
    cases hp : p n with
    | false => rw [fa_cnt_no hp]; exact ih
    | true =>
      rw [fa_cnt_yes hp]
      have : fa_cnt p n = 0 := by
        rcases Nat.eq_zero_or_pos (fa_cnt p n) with q | q
        · exact q
        · exfalso
          obtain ⟨x, hx, px⟩ : ∃ x, x < n ∧ p x = true := by
            have key : ∀ k, 0 < fa_cnt p k → ∃ x, x < k ∧ p x = true := by
              intro k
              induction k with
              | zero => intro q; simp [fa_cnt] at q
              | succ k ihk =>
                intro q
                cases hk : p k with
                | true => exact ⟨k, by omega, hk⟩
                | false =>
                  rw [fa_cnt_no hk] at q
                  obtain ⟨x, h1, h2⟩ := ihk q
                  exact ⟨x, by omega, h2⟩
            exact key n q
          have := h x n (by omega) (by omega) px hp
          omega
      omega
-- SOON: the class
/-- the first c fitting worlds are those of Q -/
def FS (F : Nat → Nat → Int32) (P : Nat → Nat) (c : Nat) (Q : Nat → Prop) : Prop := ∃ xs : Nat → Nat, (∀ j, j < c → F 20 j = nI (xs j) ∧ xs j < 8 ^ P 3 ∧ Q (xs j)) ∧ ∀ x, x < 8 ^ P 3 → Q x → ∃ j, j < c ∧ xs j = x
theorem FS.same {F G : Nat → Nat → Int32} {P : Nat → Nat} {c : Nat} {Q : Nat → Prop} (h : FS F P c Q) (e : G 20 = F 20) : FS G P c Q := by
  unfold FS
  rw [e]
  exact h
theorem CV.le {m : Nat} {F : Nat → Nat → Int32} {L : Nat → Nat → Option Nat} {T : Nat → Nat} {P S : Nat → Nat} {D E : Nat} (h : CV m F L T P S D) (hE : E ≤ D) : CV m F L T P S E := by
  obtain ⟨a1, a2, a3, a4, a5, a6, a7, a8, a9, a10, a11, a12, a13⟩ := h
  exact ⟨a1, a2, a3, a4, a5, a6, a7, a8, a9, a10, a11, fun d hd => a12 d (by omega), by omega⟩
section SOs
variable {N m : Nat} {F : Nat → Nat → Int32} {L : Nat → Nat → Option Nat} {T : Nat → Nat} {P S : Nat → Nat}
theorem C_try {S' : Nat → Nat} {d a : Nat} (hN : 5000 ≤ N) (cv : CV m F L T P S d) (hd : d < 26) (ha : a < 16) (hS : S' d = a) (hS2 : ∀ e, e < d → S' e = S e) (ht : ∀ e, e < d → dayT F P S e) : ∃ G, f_X10_takeDay N (Hp m (up2 F 8 d (nI a)) L T) (some 15) (some 4) (nI d) = some ((), Hp m G L T) ∧ CV m G L T P S' (d + 1) ∧ (∀ e, e ≤ d → dayT G P S' e) ∧ (∀ p, p ≠ 8 → p ≠ 16 → p ≠ 17 → p ≠ 18 → G p = F p) ∧ ∀ j, j ≠ d → G 8 j = F 8 j := by
  generalize hF1 : up2 F 8 d (nI a) = F1
  have fp : ∀ p, p ≠ 8 → F1 p = F p := fun p hp => by rw [← hF1, up2_ne hp]
  have cv1 : CV m F1 L T P S' (d + 1) := by
    obtain ⟨a1, a2, a3, a4, a5, a6, a7, a8, a9, a10, a11, a12, a13⟩ := cv
    have e4 := fp 4 (by decide)
    refine ⟨a1, a2, a3, a4, a5, by rw [e4]; exact a6, by rw [e4]; exact a7, by rw [e4]; exact a8, by rw [e4]; exact a9, by rw [e4]; exact a10, fun i hi => ?_, fun e he => ?_, by omega⟩
    · obtain ⟨t, q1, q2, q3, q4, q5, q6⟩ := a11 i hi
      exact ⟨t, q1, q2, q3, q4, by rw [fp t (by omega)]; exact q5, by rw [fp t (by omega)]; exact q6⟩
    · by_cases h : e = d
      · rw [h, hS, ← hF1, up2_s]; exact ⟨rfl, ha⟩
      · rw [hS2 e (by omega), ← hF1, up2_o h]; exact a12 e (by omega)
  obtain ⟨G, g1, g2, g3⟩ := C_takeDay (N := N) hN cv1 (show d < d + 1 by omega)
  refine ⟨G, ?_, cv1.tab g3.1, fun e he => ?_, fun p p1 p2 p3 p4 => by rw [g3.1 p p2 p3 p4, fp p p1], fun j hj => by rw [g3.1 8 (by decide) (by decide) (by decide), ← hF1, up2_o hj]⟩
  · exact g1
  · by_cases h : e = d
    · rw [h]; exact g2
    · have hx : dayT F1 P S' e := by
        have := dayT_c (ht e (by omega)) (S' := S') (fun u hu => (hS2 u (by omega)).symm)
        exact ⟨by rw [fp 18 (by decide)]; exact this.1, fun x hx => by rw [fp 16 (by decide), fp 17 (by decide)]; exact this.2 x hx⟩
      exact hx.keep g3 h
theorem C_alone_l {W c d : Nat} {Q : Nat → Prop} {xs : Nat → Nat} (hN : 5000 ≤ N) (pv : PV P) (f4 : F 15 4 = nI (P 1)) (f5 : F 15 5 = nI (P 2)) (ht : ∀ e, e ≤ d → dayT F P S e) (hd : d ≤ 25) (hW : W < 8 ^ P 3) (hc : c ≤ 4096) (fs1 : ∀ j, j < c → F 20 j = nI (xs j) ∧ xs j < 8 ^ P 3 ∧ Q (xs j)) (fs2 : ∀ x, x < 8 ^ P 3 → Q x → ∃ j, j < c ∧ xs j = x) (al : Bool) (hal : al = true ↔ ∀ x, x < 8 ^ P 3 → Q x → x ≠ W → ¬ shW P S x d = shW P S W d) : ∀ (n i : Nat), i ≤ c → c < i + n → (∀ j, j < i → xs j = W ∨ ¬ shW P S (xs j) d = shW P S W d) → f_X10_isAlone_11 N n (Hp m F L T) (some 15) (nI W) (nI c) (nI d) (nI (shW P S W d)) (nI i) = some (bB al, Hp m F L T) := by
  obtain ⟨v0, v1, v2, v3, v4, v5, v6, v7, v8⟩ := pv
  have hp := p8_le v3
  have shl : ∀ x, shW P S x d ≤ 1124 := fun x => shN_le v3 (fun t _ => by have := wld_lt x t; omega) v0 (by omega)
  intro n
  induction n with
  | zero => intro i h1 h2; omega
  | succ n ih =>
    intro i h1 h2 h3
    rw [f_X10_isAlone_11]
    by_cases hi : i = c
    · have : al = true := hal.mpr (fun x hx hQ hxW => by
        obtain ⟨j, hj, rfl⟩ := fs2 x hx hQ
        rcases h3 j (by omega) with q | q
        · exact absurd q hxW
        · exact q)
      rw [if_pos (by rw [hi]; exact Int32.le_refl _), this]
      rfl
    · rw [if_neg (nI_ge (show i < c by omega) (by omega))]
      obtain ⟨e1, e2, e3⟩ := fs1 i (by omega)
      have ew : nI (xs i) = nI W ↔ xs i = W := nI_eq (by omega) (by omega)
      have es := C_shIn (N := N) (m := m) (F := F) (L := L) (T := T) (P := P) (S := S) hN v3 v0 v1 v2 f4 f5 ht hd (show xs i < 4096 by omega)
      have hs1 := shl (xs i)
      have hs2 := shl W
      simp only [(gN_20 (show i < 4096 by omega)).1, e1, ew, es, nI_eq (show shW P S (xs i) d < 2 ^ 31 by omega) (show shW P S W d < 2 ^ 31 by omega), f_X10_isAlone_47, nI_1, gI_0, gI_2, gI_4, gI_9, gI_15, gI_21, gI_49, gP_0, gP_2, gP_4, gP_9, gP_15, gP_21, gP_49, gR_0, gR_2, gR_4, gR_9, gR_15, gR_21, gR_49, gL_53, gL_54, oPz_0, oPz_1, Option.bind_some, c10, c01, cm1, c00, if_true, if_false, ne_eq, not_true_eq_false, not_false_eq_true]
      by_cases hw : xs i = W
      · rw [if_pos hw]
        exact ih (i + 1) (by omega) (by omega) (fun j hj => by
          by_cases q : j = i
          · rw [q]; exact Or.inl hw
          · exact h3 j (by omega))
      · rw [if_neg hw]
        by_cases hs : shW P S (xs i) d = shW P S W d
        · have : al = false := by
            rw [← Bool.not_eq_true]
            intro q
            exact hal.mp q (xs i) e2 e3 hw hs
          rw [if_pos hs, if_pos (Or.inl trivial), this]
          rfl
        · rw [if_neg hs]
          exact ih (i + 1) (by omega) (by omega) (fun j hj => by
            by_cases q : j = i
            · rw [q]; exact Or.inr hs
            · exact h3 j (by omega))
theorem C_alone {W c d : Nat} {Q : Nat → Prop} (hN : 5000 ≤ N) (pv : PV P) (f4 : F 15 4 = nI (P 1)) (f5 : F 15 5 = nI (P 2)) (ht : ∀ e, e ≤ d → dayT F P S e) (hd : d ≤ 25) (hW : W < 8 ^ P 3) (hc : c ≤ 4096) (fs : FS F P c Q) (al : Bool) (hal : al = true ↔ ∀ x, x < 8 ^ P 3 → Q x → x ≠ W → ¬ shW P S x d = shW P S W d) : f_X10_isAlone N (Hp m F L T) (some 15) (nI W) (nI c) (nI d) = some (bB al, Hp m F L T) := by
  obtain ⟨xs, fs1, fs2⟩ := fs
  have key := C_alone_l (N := N) (m := m) (L := L) (T := T) hN pv f4 f5 ht hd hW hc fs1 fs2 al hal N 0 (by omega) (by omega) (fun j hj => by omega)
  obtain ⟨v0, v1, v2, v3, v4, v5, v6, v7, v8⟩ := pv
  have hp := p8_le v3
  have es := C_shIn (N := N) (m := m) (F := F) (L := L) (T := T) (P := P) (S := S) hN v3 v0 v1 v2 f4 f5 ht hd (show W < 4096 by omega)
  simp only [f_X10_isAlone, f_X10_isAlone_0, es, gI_0, gI_2, gI_4, gI_9, gI_15, gI_21, gI_49, gP_0, gP_2, gP_4, gP_9, gP_15, gP_21, gP_49, gR_0, gR_2, gR_4, gR_9, gR_15, gR_21, gR_49, gL_53, gL_54, oPz_0, oPz_1, Option.bind_some, c10, c01, cm1, c00, if_true, if_false, ne_eq, not_true_eq_false, not_false_eq_true]
  exact key
theorem C_bring_l {c d sW : Nat} {Q : Nat → Prop} (hN : 5000 ≤ N) (pv : PV P) (hd : d ≤ 25) (hc : c ≤ 4096) (hsW : sW ≤ 1124) : ∀ (n i l : Nat) (F : Nat → Nat → Int32) (xs : Nat → Nat), F 15 4 = nI (P 1) → F 15 5 = nI (P 2) → F 15 6 = nI d → (∀ e, e ≤ d → dayT F P S e) → (∀ j, j < c → F 20 j = nI (xs j) ∧ xs j < 8 ^ P 3 ∧ Q (xs j)) → (∀ x, x < 8 ^ P 3 → Q x → ∃ j, j < c ∧ xs j = x) → (∀ j, j < l → shW P S (xs j) d = sW) → (∀ j, l ≤ j → j < i → ¬ shW P S (xs j) d = sW) → l ≤ i → i ≤ c → c < i + n → ∃ G k, f_X10_bringForward_16 N n (Hp m F L T) (some 15) (nI c) (nI sW) (nI l) (nI i) = some (nI k, Hp m G L T) ∧ k ≤ c ∧ (∀ p, p ≠ 20 → G p = F p) ∧ FS G P c Q ∧ FS G P k (fun x => Q x ∧ shW P S x d = sW) := by
  obtain ⟨v0, v1, v2, v3, v4, v5, v6, v7, v8⟩ := pv
  have hp := p8_le v3
  have shl : ∀ x, shW P S x d ≤ 1124 := fun x => shN_le v3 (fun t _ => by have := wld_lt x t; omega) v0 (by omega)
  intro n
  induction n with
  | zero => intro i l F xs _ _ _ _ _ _ _ _ h1 h2 h3; omega
  | succ n ih =>
    intro i l F xs f4 f5 f6 ht fs1 fs2 a1 a2 h1 h2 h3
    rw [f_X10_bringForward_16]
    by_cases hi : i = c
    · rw [if_pos (by rw [hi]; exact Int32.le_refl _)]
      refine ⟨F, l, rfl, by omega, fun _ _ => rfl, ⟨xs, fs1, fs2⟩, xs, fun j hj => ?_, fun x hx hQ => ?_⟩
      · obtain ⟨b1, b2, b3⟩ := fs1 j (by omega)
        exact ⟨b1, b2, b3, a1 j hj⟩
      · obtain ⟨j, hj, rfl⟩ := fs2 x hx hQ.1
        refine ⟨j, ?_, rfl⟩
        rcases Nat.lt_or_ge j l with q | q
        · exact q
        · exact absurd hQ.2 (a2 j q (by omega))
    · rw [if_neg (nI_ge (show i < c by omega) (by omega))]
      obtain ⟨e1, e2, e3⟩ := fs1 i (by omega)
      obtain ⟨l1, l2, l3⟩ := fs1 l (by omega)
      have es := C_shIn (N := N) (m := m) (F := F) (L := L) (T := T) (P := P) (S := S) hN v3 v0 v1 v2 f4 f5 ht hd (show xs i < 4096 by omega)
      have hs1 := shl (xs i)
      simp only [(gN_20 (show i < 4096 by omega)).1, (gN_20 (show l < 4096 by omega)).1, e1, l1, f6, es, nI_eq (show shW P S (xs i) d < 2 ^ 31 by omega) (show sW < 2 ^ 31 by omega), (gN_20 (show i < 4096 by omega)).2, (gN_20 (show l < 4096 by omega)).2, f_X10_bringForward_71, nI_1, gI_0, gI_2, gI_4, gI_9, gI_15, gI_21, gI_49, gP_0, gP_2, gP_4, gP_9, gP_15, gP_21, gP_49, gR_0, gR_2, gR_4, gR_9, gR_15, gR_21, gR_49, gL_53, gL_54, oPz_0, oPz_1, Option.bind_some, c10, c01, cm1, c00, if_true, if_false, ne_eq, not_true_eq_false, not_false_eq_true]
      by_cases hs : shW P S (xs i) d = sW
      · rw [if_pos hs]
        generalize hF1 : up2 (up2 F 20 i (nI (xs l))) 20 l (nI (xs i)) = F1
        have fp : ∀ p, p ≠ 20 → F1 p = F p := fun p hp => by rw [← hF1, up2_ne hp, up2_ne hp]
        obtain ⟨G, k, r1, r2, r3, r4, r5⟩ := ih (i + 1) (l + 1) F1 (fun j => if j = l then xs i else if j = i then xs l else xs j) (by rw [fp 15 (by decide)]; exact f4) (by rw [fp 15 (by decide)]; exact f5) (by rw [fp 15 (by decide)]; exact f6) (fun e he => by
            obtain ⟨t1, t2⟩ := ht e he
            exact ⟨by rw [fp 18 (by decide)]; exact t1, fun x hx => by rw [fp 16 (by decide), fp 17 (by decide)]; exact t2 x hx⟩) (fun j hj => by
            by_cases q : j = l
            · rw [if_pos q, q, ← hF1, up2_s]; exact ⟨rfl, e2, e3⟩
            · rw [if_neg q]
              by_cases q2 : j = i
              · rw [if_pos q2, q2, ← hF1, up2_o (by omega), up2_s]; exact ⟨rfl, l2, l3⟩
              · rw [if_neg q2, ← hF1, up2_o q, up2_o q2]; exact fs1 j hj) (fun x hx hQ => by
            obtain ⟨j, hj, hjx⟩ := fs2 x hx hQ
            by_cases q : j = i
            · exact ⟨l, by omega, by rw [if_pos rfl, ← hjx, q]⟩
            · by_cases q2 : j = l
              · refine ⟨i, by omega, ?_⟩
                by_cases q3 : i = l
                · rw [if_pos q3, ← hjx, q2, q3]
                · rw [if_neg q3, if_pos rfl, ← hjx, q2]
              · exact ⟨j, hj, by rw [if_neg q2, if_neg q, hjx]⟩) (fun j hj => by
            by_cases q : j = l
            · rw [if_pos q]; exact hs
            · rw [if_neg q, if_neg (by omega)]; exact a1 j (by omega)) (fun j hj1 hj2 => by
            rw [if_neg (by omega)]
            by_cases q2 : j = i
            · rw [if_pos q2]; exact a2 l (Nat.le_refl _) (by omega)
            · rw [if_neg q2]; exact a2 j (by omega) (by omega)) (by omega) (by omega) (by omega)
        exact ⟨G, k, r1, r2, fun p hp => by rw [r3 p hp, fp p hp], r4, r5⟩
      · rw [if_neg hs]
        exact ih (i + 1) l F xs f4 f5 f6 ht fs1 fs2 a1 (fun j hj1 hj2 => by
          by_cases q : j = i
          · rw [q]; exact hs
          · exact a2 j hj1 (by omega)) (by omega) (by omega) (by omega)
theorem C_bring {W c d : Nat} {Q : Nat → Prop} (hN : 5000 ≤ N) (pv : PV P) (hd : d ≤ 25) (hc : c ≤ 4096) (hW : W < 8 ^ P 3) (f4 : F 15 4 = nI (P 1)) (f5 : F 15 5 = nI (P 2)) (f6 : F 15 6 = nI d) (ht : ∀ e, e ≤ d → dayT F P S e) (fs : FS F P c Q) : ∃ G k, f_X10_bringForward N (Hp m F L T) (some 15) (nI W) (nI c) = some (nI k, Hp m G L T) ∧ k ≤ c ∧ (∀ p, p ≠ 20 → G p = F p) ∧ FS G P c Q ∧ FS G P k (fun x => Q x ∧ shW P S x d = shW P S W d) := by
  obtain ⟨xs, fs1, fs2⟩ := fs
  have hp := p8_le pv.2.2.2.1
  have shl : shW P S W d ≤ 1124 := shN_le pv.2.2.2.1 (fun t _ => by have := wld_lt W t; omega) pv.1 (by omega)
  obtain ⟨G, k, r1, r2⟩ := C_bring_l (N := N) (m := m) (L := L) (T := T) (S := S) (d := d) (sW := shW P S W d) (Q := Q) hN pv hd hc shl N 0 0 F xs f4 f5 f6 ht fs1 fs2 (fun j hj => by omega) (fun j _ hj => by omega) (by omega) (by omega) (by omega)
  refine ⟨G, k, ?_, r2⟩
  have es := C_shIn (N := N) (m := m) (F := F) (L := L) (T := T) (P := P) (S := S) hN pv.2.2.2.1 pv.1 pv.2.1 pv.2.2.1 f4 f5 ht hd (show W < 4096 by omega)
  simp only [f_X10_bringForward, f_X10_bringForward_0, f6, es, gI_0, gI_2, gI_4, gI_9, gI_15, gI_21, gI_49, gP_0, gP_2, gP_4, gP_9, gP_15, gP_21, gP_49, gR_0, gR_2, gR_4, gR_9, gR_15, gR_21, gR_49, gL_53, gL_54, oPz_0, oPz_1, Option.bind_some, c10, c01, cm1, c00, if_true, if_false, ne_eq, not_true_eq_false, not_false_eq_true]
  exact r1
theorem C_gath1_l (hN : 5000 ≤ N) (pv : PV P) : ∀ (n i : Nat) (F : Nat → Nat → Int32), CV m F L T P (setN P) (P 4) → F 15 6 = nI (P 4) → (∀ j, j < i → F 19 j = nI (shT P (setN P) j)) → i ≤ P 4 → P 4 < i + n → ∃ G, f_X10_gatherTrue_2 N n (Hp m F L T) (some 15) (some 4) (nI i) = f_X10_gatherTrue_31 N N (Hp m G L T) (some 15) 0 0 ∧ (∀ p, p ≠ 19 → G p = F p) ∧ ∀ j, j < P 4 → G 19 j = nI (shT P (setN P) j) := by
  have v4 : P 4 ≤ 24 := pv.2.2.2.2.1
  intro n
  induction n with
  | zero => intro i F _ _ _ h1 h2; omega
  | succ n ih =>
    intro i F cv f6 h h1 h2
    rw [f_X10_gatherTrue_2]
    simp only [f6, gI_0, gI_2, gI_4, gI_9, gI_15, gI_21, gI_49, gP_0, gP_2, gP_4, gP_9, gP_15, gP_21, gP_49, gR_0, gR_2, gR_4, gR_9, gR_15, gR_21, gR_49, gL_53, gL_54, oPz_0, oPz_1, Option.bind_some, c10, c01, cm1, c00, if_true, if_false, ne_eq, not_true_eq_false, not_false_eq_true]
    by_cases hi : i = P 4
    · rw [if_pos (by rw [hi]; exact Int32.le_refl _)]
      exact ⟨F, rfl, fun _ _ => rfl, by rw [← hi]; exact h⟩
    · rw [if_neg (nI_ge (show i < P 4 by omega) (by omega))]
      have fp : ∀ p, p ≠ 19 → up2 F 19 i (nI (shT P (setN P) i)) p = F p := fun p hp => up2_ne hp
      have cv1 : CV m (up2 F 19 i (nI (shT P (setN P) i))) L T P (setN P) (P 4) := by
        obtain ⟨a1, a2, a3, a4, a5, a6, a7, a8, a9, a10, a11, a12, a13⟩ := cv
        have e4 := fp 4 (by decide)
        refine ⟨a1, a2, a3, a4, a5, by rw [e4]; exact a6, by rw [e4]; exact a7, by rw [e4]; exact a8, by rw [e4]; exact a9, by rw [e4]; exact a10, fun i hi => ?_, fun e he => by rw [fp 8 (by decide)]; exact a12 e he, by omega⟩
        obtain ⟨t, q1, q2, q3, q4, q5, q6⟩ := a11 i hi
        exact ⟨t, q1, q2, q3, q4, by rw [fp t (by omega)]; exact q5, by rw [fp t (by omega)]; exact q6⟩
      obtain ⟨G, r1, r2, r3⟩ := ih (i + 1) _ cv1 (by rw [fp 15 (by decide)]; exact f6) (fun j hj => by
        by_cases q : j = i
        · rw [q, up2_s]
        · rw [up2_o q]; exact h j (by omega)) (by omega) (by omega)
      refine ⟨G, ?_, fun p hp => by rw [r2 p hp, fp p hp], r3⟩
      simp only [C_shownOn hN cv (show i < P 4 by omega), (gN_19 (show i < 24 by omega)).2, nI_1, gI_0, gI_2, gI_4, gI_9, gI_15, gI_21, gI_49, gP_0, gP_2, gP_4, gP_9, gP_15, gP_21, gP_49, gR_0, gR_2, gR_4, gR_9, gR_15, gR_21, gR_49, gL_53, gL_54, oPz_0, oPz_1, Option.bind_some, c10, c01, cm1, c00, if_true, if_false, ne_eq, not_true_eq_false, not_false_eq_true]
      exact r1
theorem fitB_T {tv : Nat → Int32} {x : Nat} (pv : PV P) (h : ∀ j, j < P 4 → tv j = nI (shT P S j)) : fitB tv P S x = true ↔ fitT P S (P 4) x := by
  obtain ⟨v0, v1, v2, v3, v4, v5, v6, v7, v8⟩ := pv
  unfold fitB
  rw [decide_eq_true_iff, bitsN_0]
  have sl : ∀ d, d < P 4 → shW P S x d ≤ 1124 ∧ shT P S d ≤ 1124 := fun d hd => ⟨shN_le v3 (fun t _ => by have := wld_lt x t; omega) v0 (by omega), shN_le v3 (fun t ht => (v7 t ht).2.2) v0 (by omega)⟩
  constructor
  · intro q d hd
    have := of_decide_eq_false (q d hd)
    rw [h d hd] at this
    obtain ⟨s1, s2⟩ := sl d hd
    by_cases e : shW P S x d = shT P S d
    · exact e
    · exfalso
      apply this
      refine ⟨fun w => ?_, fun w => e ((nI_eq (by omega) (by omega)).mp w).symm⟩
      have := (fa_eq _ _).mp w
      rw [nI_toInt (by omega)] at this
      have e1 : (-1 : Int32).toInt = -1 := by decide
      omega
  · intro q d hd
    exact wrg_f (Or.inr (by rw [h d hd, q d hd]))
theorem C_gath2_l (hN : 5000 ≤ N) (pv : PV P) : ∀ (n x : Nat) (F : Nat → Nat → Int32), TV F P S (P 4) → x ≤ 8 ^ P 3 → 8 ^ P 3 < x + n → (∃ xs : Nat → Nat, (∀ j, j < fa_cnt (fitB (F 19) P S) x → F 20 j = nI (xs j) ∧ xs j < x ∧ fitB (F 19) P S (xs j) = true) ∧ ∀ y, y < x → fitB (F 19) P S y = true → ∃ j, j < fa_cnt (fitB (F 19) P S) x ∧ xs j = y) → ∃ G, f_X10_gatherTrue_31 N n (Hp m F L T) (some 15) (nI (fa_cnt (fitB (F 19) P S) x)) (nI x) = some (nI (fa_cnt (fitB (F 19) P S) (8 ^ P 3)), Hp m G L T) ∧ (∀ p, p ≠ 20 → G p = F p) ∧ FS G P (fa_cnt (fitB (F 19) P S) (8 ^ P 3)) (fun y => fitB (F 19) P S y = true) := by
  have hp := p8_le pv.2.2.2.1
  intro n
  induction n with
  | zero => intro x F _ h1 h2; omega
  | succ n ih =>
    intro x F tv h1 h2 ⟨xs, h3, h4⟩
    rw [f_X10_gatherTrue_31]
    simp only [tv.2.2.2.1, gI_0, gI_2, gI_4, gI_9, gI_15, gI_21, gI_49, gP_0, gP_2, gP_4, gP_9, gP_15, gP_21, gP_49, gR_0, gR_2, gR_4, gR_9, gR_15, gR_21, gR_49, gL_53, gL_54, oPz_0, oPz_1, Option.bind_some, c10, c01, cm1, c00, if_true, if_false, ne_eq, not_true_eq_false, not_false_eq_true]
    by_cases hx : x = 8 ^ P 3
    · rw [if_pos (by rw [hx]; exact Int32.le_refl _)]
      rw [hx] at h3 h4
      rw [hx]
      exact ⟨F, rfl, fun _ _ => rfl, xs, h3, h4⟩
    · rw [if_neg (nI_ge (show x < 8 ^ P 3 by omega) (by omega))]
      have hc := fa_cnt_le (fitB (F 19) P S) x
      simp only [C_fit hN pv tv (Nat.le_refl _) (show x < 4096 by omega), f_X10_gatherTrue_57, bB_0, (gN_20 (show fa_cnt (fitB (F 19) P S) x < 4096 by omega)).2, nI_1, gI_0, gI_2, gI_4, gI_9, gI_15, gI_21, gI_49, gP_0, gP_2, gP_4, gP_9, gP_15, gP_21, gP_49, gR_0, gR_2, gR_4, gR_9, gR_15, gR_21, gR_49, gL_53, gL_54, oPz_0, oPz_1, Option.bind_some, c10, c01, cm1, c00, if_true, if_false, ne_eq, not_true_eq_false, not_false_eq_true]
      by_cases hf : fitB (F 19) P S x = true
      · rw [if_neg (by rw [hf]; decide)]
        generalize hF1 : up2 F 20 (fa_cnt (fitB (F 19) P S) x) (nI x) = F1
        have fp : ∀ p, p ≠ 20 → F1 p = F p := fun p hp => by rw [← hF1, up2_ne hp]
        have f15 : F1 19 = F 19 := fp 19 (by decide)
        have tv1 : TV F1 P S (P 4) := by
          obtain ⟨a1, a2, a3, a4, a5⟩ := tv
          refine ⟨by rw [fp 15 (by decide)]; exact a1, by rw [fp 15 (by decide)]; exact a2, by rw [fp 15 (by decide)]; exact a3, by rw [fp 15 (by decide)]; exact a4, fun e he => ?_⟩
          obtain ⟨t1, t2⟩ := a5 e he
          exact ⟨by rw [fp 18 (by decide)]; exact t1, fun x hx => by rw [fp 16 (by decide), fp 17 (by decide)]; exact t2 x hx⟩
        obtain ⟨G, r1, r2, r3⟩ := ih (x + 1) F1 tv1 (by omega) (by omega) ⟨fun j => if j = fa_cnt (fitB (F 19) P S) x then x else xs j, fun j hj => by
            rw [f15, fa_cnt_yes hf] at hj
            rw [f15]
            dsimp only
            by_cases q : j = fa_cnt (fitB (F 19) P S) x
            · rw [if_pos q, q, ← hF1, up2_s]; exact ⟨rfl, by omega, hf⟩
            · rw [if_neg q, ← hF1, up2_o q]
              obtain ⟨b1, b2, b3⟩ := h3 j (by omega)
              exact ⟨b1, by omega, b3⟩, fun y hy hfy => by
            rw [f15] at hfy ⊢
            rw [fa_cnt_yes hf]
            by_cases q : y = x
            · exact ⟨fa_cnt (fitB (F 19) P S) x, by omega, by dsimp only; rw [if_pos rfl, q]⟩
            · obtain ⟨j, hj, hjy⟩ := h4 y (by omega) hfy
              exact ⟨j, by omega, by dsimp only; rw [if_neg (by omega), hjy]⟩⟩
        rw [f15, fa_cnt_yes hf] at r1
        rw [f15] at r3
        exact ⟨G, r1, fun p hp => by rw [r2 p hp, fp p hp], r3⟩
      · have hf' := (Bool.not_eq_true _).mp hf
        rw [if_pos hf']
        obtain ⟨G, r1, r2, r3⟩ := ih (x + 1) F tv (by omega) (by omega) ⟨xs, fun j hj => by
            rw [fa_cnt_no hf'] at hj
            obtain ⟨b1, b2, b3⟩ := h3 j hj
            exact ⟨b1, by omega, b3⟩, fun y hy hfy => by
            rw [fa_cnt_no hf']
            by_cases q : y = x
            · rw [q, hf'] at hfy; exact absurd hfy (by decide)
            · exact h4 y (by omega) hfy⟩
        rw [fa_cnt_no hf'] at r1
        exact ⟨G, r1, r2, r3⟩
theorem C_gath (hN : 5000 ≤ N) (pv : PV P) (cv : CV m F L T P (setN P) (P 4)) (tv : TV F P (setN P) (P 4)) : ∃ G c, f_X10_gatherTrue N (Hp m F L T) (some 15) (some 4) = some (nI c, Hp m G L T) ∧ c ≤ 4096 ∧ (c = 1 ↔ oneT P (setN P) (P 4)) ∧ (∀ p, p ≠ 19 → p ≠ 20 → G p = F p) ∧ FS G P c (fitT P (setN P) (P 4)) := by
  have hp := p8_le pv.2.2.2.1
  have v4 : P 4 ≤ 24 := pv.2.2.2.2.1
  obtain ⟨G1, a1, a2, a3⟩ := C_gath1_l (N := N) (m := m) (L := L) (T := T) hN pv N 0 F cv tv.2.2.1 (fun j hj => by omega) (by omega) (by omega)
  have tv1 : TV G1 P (setN P) (P 4) := by
    obtain ⟨a1, b2, b3, b4, b5⟩ := tv
    have e := a2 15 (by decide)
    refine ⟨by rw [e]; exact a1, by rw [e]; exact b2, by rw [e]; exact b3, by rw [e]; exact b4, fun d hd => ?_⟩
    obtain ⟨t1, t2⟩ := b5 d hd
    exact ⟨by rw [a2 18 (by decide)]; exact t1, fun x hx => by rw [a2 16 (by decide), a2 17 (by decide)]; exact t2 x hx⟩
  obtain ⟨G, b1, b2, xs, b3, b4⟩ := C_gath2_l (N := N) (m := m) (L := L) (T := T) hN pv N 0 G1 tv1 (Nat.zero_le _) (by omega) ⟨fun _ => 0, fun j hj => by simp [fa_cnt] at hj, fun y hy => by omega⟩
  have fT : ∀ x, fitB (G1 19) P (setN P) x = true ↔ fitT P (setN P) (P 4) x := fun x => fitB_T pv a3
  refine ⟨G, fa_cnt (fitB (G1 19) P (setN P)) (8 ^ P 3), ?_, by have := fa_cnt_le (fitB (G1 19) P (setN P)) (8 ^ P 3); omega, ?_, fun p p1 p2 => by rw [b2 p p2, a2 p p1], xs, fun j hj => ?_, fun x hx hQ => b4 x hx ((fT x).mpr hQ)⟩
  · have a1' : f_X10_gatherTrue_2 N N (Hp m F L T) (some 15) (some 4) 0 = f_X10_gatherTrue_31 N N (Hp m G1 L T) (some 15) 0 0 := a1
    simp only [f_X10_gatherTrue, f_X10_gatherTrue_0, a1']
    exact b1
  · rw [oneT_iff pv]
    constructor
    · intro h y hy hf
      exact cnt_one (p := fitB (G1 19) P (setN P)) (n := 8 ^ P 3) (by omega) y (truW P) hy (truW_lt8 pv) ((fT y).mpr hf) ((fT _).mpr (fit_tru pv))
    · intro h
      have h1 := cnt_pos (p := fitB (G1 19) P (setN P)) (truW_lt8 pv) ((fT _).mpr (fit_tru pv))
      have h2 := cnt_le1 (p := fitB (G1 19) P (setN P)) (n := 8 ^ P 3) (fun x y hx hy px py => by rw [h x hx ((fT x).mp px), h y hy ((fT y).mp py)])
      omega
  · obtain ⟨c1, c2, c3⟩ := b3 j hj
    exact ⟨c1, c2, (fT _).mp c3⟩
theorem C_world_l (h3 : P 3 ≤ 4) (h4 : F 4 4 = nI (P 3)) (pw : ∀ i, i < P 3 → F 6 i = nI (P (6 + 2 * i))) (hk : ∀ i, i < P 3 → 1 ≤ P (5 + 2 * i) ∧ P (5 + 2 * i) ≤ 5 ∧ P (6 + 2 * i) ≤ 7) : ∀ (n i : Nat), i ≤ P 3 → P 3 < i + n → f_X10_worldOf_4 N n (Hp m F L T) (some 4) (nI (sumN (fun t => P (6 + 2 * t) * 8 ^ t) i)) (nI i) = some (nI (truW P), Hp m F L T) := by
  intro n
  induction n with
  | zero => intro i h1 h2; omega
  | succ n ih =>
    intro i h1 h2
    rw [f_X10_worldOf_4]
    simp only [h4, gI_0, gI_2, gI_4, gI_9, gI_15, gI_21, gI_49, gP_0, gP_2, gP_4, gP_9, gP_15, gP_21, gP_49, gR_0, gR_2, gR_4, gR_9, gR_15, gR_21, gR_49, gL_53, gL_54, oPz_0, oPz_1, Option.bind_some, c10, c01, cm1, c00, if_true, if_false, ne_eq, not_true_eq_false, not_false_eq_true]
    by_cases hi : i = P 3
    · rw [if_pos (by rw [hi]; exact Int32.le_refl _), hi]; rfl
    · have hi' : i < P 3 := by omega
      rw [if_neg (nI_ge hi' (by omega))]
      obtain ⟨k1, k2, k3⟩ := hk i hi'
      have ih' := ih (i + 1) (by omega) (by omega)
      rw [sumN] at ih'
      have hlt := truW_lt (P := P) (fun t ht => (hk t ht).2.2) i h1
      have hp8 : 8 ^ i ≤ 8 ^ 3 := Nat.pow_le_pow_right (by decide) (by omega)
      have e1 : nI (P (6 + 2 * i)) <<< (((3 : Int32) * nI i) &&& 31) = nI (P (6 + 2 * i) * 8 ^ i) := by
        rw [show (3 : Int32) = nI 3 from rfl, pk_mul]
        have := shlN (s := P (6 + 2 * i)) (t := 3 * i) (by
          rw [p8_eq]
          have : P (6 + 2 * i) * 8 ^ i ≤ 7 * 8 ^ 3 := Nat.mul_le_mul k3 hp8
          omega) (by omega)
        rw [p8_eq] at this
        exact this
      have e2 : nI (sumN (fun t => P (6 + 2 * t) * 8 ^ t) i) ||| nI (P (6 + 2 * i) * 8 ^ i) = nI (sumN (fun t => P (6 + 2 * t) * 8 ^ t) i + P (6 + 2 * i) * 8 ^ i) := by
        have := Nat.two_pow_add_eq_or_of_lt (i := 3 * i) (b := sumN (fun t => P (6 + 2 * t) * 8 ^ t) i) (by rw [p8_eq]; exact hlt) (P (6 + 2 * i))
        rw [p8_eq, Nat.mul_comm (8 ^ i)] at this
        rw [fa_or, Nat.or_comm, ← this, Nat.add_comm]
      simp only [(gN_6 (show i < 4 by omega)).1, pw i hi', e1, e2, nI_1, gI_0, gI_2, gI_4, gI_9, gI_15, gI_21, gI_49, gP_0, gP_2, gP_4, gP_9, gP_15, gP_21, gP_49, gR_0, gR_2, gR_4, gR_9, gR_15, gR_21, gR_49, gL_53, gL_54, oPz_0, oPz_1, Option.bind_some, c10, c01, cm1, c00, if_true, if_false, ne_eq, not_true_eq_false, not_false_eq_true]
      exact ih'
theorem C_world (hN : 5000 ≤ N) (cv : CV m F L T P S 0) (pw : ∀ i, i < P 3 → F 6 i = nI (P (6 + 2 * i))) : f_X10_worldOf N (Hp m F L T) (some 4) = some (nI (truW P), Hp m F L T) := by
  obtain ⟨a1, a2, a3, a4, a5, a6, a7, a8, a9, a10, a11, a12, a13⟩ := cv
  exact C_world_l a1 a9 pw a5 N 0 (by omega) (by omega)
end SOs
