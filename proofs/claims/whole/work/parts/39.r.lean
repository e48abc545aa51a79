-- THE TABLES OF WORLDS
def hvN (P : Nat → Nat) (s t w d : Nat) : Nat := if t < P 3 ∧ s.testBit t = true then heavyN (P (5 + 2 * t)) w d else 0
def pairN (P : Nat → Nat) (s f x d : Nat) : Nat := hvN P s f (x % 8) d + hvN P s (f + 1) (x / 8) d
theorem hv_le {P : Nat → Nat} {s t w d : Nat} (hw : w ≤ 7) (hd : d ≤ 99) : hvN P s t w d ≤ 70 := by
  unfold hvN
  split
  · exact heavy_le hw hd
  · omega
theorem load_4 {P : Nat → Nat} {s d x : Nat} (h3 : P 3 ≤ 4) : loadN P s (wldN x) d = hvN P s 0 (wldN x 0) d + hvN P s 1 (wldN x 1) d + hvN P s 2 (wldN x 2) d + hvN P s 3 (wldN x 3) d := by
  unfold loadN hvN
  rcases (show P 3 = 0 ∨ P 3 = 1 ∨ P 3 = 2 ∨ P 3 = 3 ∨ P 3 = 4 by omega) with h | h | h | h | h <;> rw [h] <;> simp [sumN]
theorem load_pair {P : Nat → Nat} {s d x : Nat} (h3 : P 3 ≤ 4) (hx : x < 4096) : loadN P s (wldN x) d = pairN P s 0 (x % 64) d + pairN P s 2 (x / 64) d := by
  rw [load_4 h3]
  unfold pairN wldN
  have e0 : x / 8 ^ 0 % 8 = x % 64 % 8 := by rw [Nat.pow_zero, Nat.div_one]; omega
  have e1 : x / 8 ^ 1 % 8 = x % 64 / 8 := by rw [Nat.pow_one]; omega
  have e2 : x / 8 ^ 2 % 8 = x / 64 % 8 := by rw [show 8 ^ 2 = 64 from rfl]
  have e3 : x / 8 ^ 3 % 8 = x / 64 / 8 := by rw [show 8 ^ 3 = 512 from rfl]; omega
  rw [e0, e1, e2, e3]
  simp only [Nat.zero_add, Nat.reduceAdd]
  omega
/-- the tables are right for day d -/
def dayT (F : Nat → Nat → Int32) (P S : Nat → Nat) (d : Nat) : Prop := F 18 d = nI (rcN (fun e => freshN P (S e)) (P 0) d) ∧ ∀ x, x < 64 → F 16 (64 * d + x) = nI (pairN P (S d) 0 x d) ∧ F 17 (64 * d + x) = nI (pairN P (S d) 2 x d)
section WTs
variable {N m : Nat} {F : Nat → Nat → Int32} {L : Nat → Nat → Option Nat} {T : Nat → Nat} {P S : Nat → Nat} {D : Nat}
theorem gN_T {q j : Nat} (hq : q = 16 ∨ q = 17) (h : j < 1664) : (oA (Hp m F L T) (some q) 0 (nI j) = some (F q j)) ∧ ∀ x : Int32, oS (Hp m F L T) (some q) 0 (nI j) x = some (Hp m (up2 F q j x) L T) := by
  rcases hq with rfl | rfl
  · exact gN_16 h
  · exact gN_17 h
theorem CV.tab {G : Nat → Nat → Int32} (h : CV m F L T P S D) (e : ∀ p, p ≠ 16 → p ≠ 17 → p ≠ 18 → G p = F p) : CV m G L T P S D := by
  obtain ⟨a1, a2, a3, a4, a5, a6, a7, a8, a9, a10, a11, a12, a13⟩ := h
  have e4 := e 4 (by decide) (by decide) (by decide)
  refine ⟨a1, a2, a3, a4, a5, by rw [e4]; exact a6, by rw [e4]; exact a7, by rw [e4]; exact a8, by rw [e4]; exact a9, by rw [e4]; exact a10, fun i hi => ?_, fun d hd => by rw [e 8 (by decide) (by decide) (by decide)]; exact a12 d hd, a13⟩
  obtain ⟨t, q1, q2, q3, q4, q5, q6⟩ := a11 i hi
  exact ⟨t, q1, q2, q3, q4, by rw [e t (by omega) (by omega) (by omega)]; exact q5, by rw [e t (by omega) (by omega) (by omega)]; exact q6⟩
theorem C_hIn (h : CV m F L T P S D) {t w d : Nat} (ht : t < 32) (hw : w ≤ 7) (hd : d < D) : f_X10_heavyIn N (Hp m F L T) (some 4) (nI t) (nI w) (nI d) = some (nI (hvN P (S d) t w d), Hp m F L T) := by
  have h3 := h.1
  have hD : D ≤ 26 := h.2.2.2.2.2.2.2.2.2.2.2.2
  have h4 := h.2.2.2.2.2.2.2.2.1
  unfold hvN
  by_cases htp : t < P 3
  · obtain ⟨u, q1, q2, q3, q4, q5, q6⟩ := h.2.2.2.2.2.2.2.2.2.2.1 t htp
    have q1' : L 7 t = some u := q1
    obtain ⟨k1, k2, -⟩ := h.2.2.2.2.1 t htp
    simp only [f_X10_heavyIn, f_X10_heavyIn_0, f_X10_heavyIn_31, f_X10_heavyIn_32, C_thing_y h3 h4 htp, q1', reduceCtorEq, C_lies h hd ht, v_heavy q2 q3 q4 k1 k2 hw (show d ≤ 99 by omega), gI_0, gI_2, gI_4, gI_9, gI_15, gI_21, gI_49, gP_0, gP_2, gP_4, gP_9, gP_15, gP_21, gP_49, gR_0, gR_2, gR_4, gR_9, gR_15, gR_21, gR_49, gL_53, gL_54, oPz_0, oPz_1, Option.bind_some, c10, c01, cm1, c00, if_true, if_false, ne_eq, not_true_eq_false, not_false_eq_true]
    by_cases hb : (S d).testBit t = true
    · rw [hb, bB_t, if_neg (by decide), if_pos ⟨htp, rfl⟩]
    · have hb' := (Bool.not_eq_true _).mp hb
      rw [hb', bB_f, if_pos rfl, if_neg (by simp)]
      rfl
  · rw [if_neg (fun q => htp q.1)]
    simp only [f_X10_heavyIn, f_X10_heavyIn_0, f_X10_heavyIn_31, f_X10_heavyIn_32, C_thing_n h4 (Or.inr (nI_le (show P 3 ≤ t by omega) (by omega))), gI_0, gI_2, gI_4, gI_9, gI_15, gI_21, gI_49, gP_0, gP_2, gP_4, gP_9, gP_15, gP_21, gP_49, gR_0, gR_2, gR_4, gR_9, gR_15, gR_21, gR_49, gL_53, gL_54, oPz_0, oPz_1, Option.bind_some, c10, c01, cm1, c00, if_true, if_false, ne_eq, not_true_eq_false, not_false_eq_true]
    rfl
theorem C_fill_in {q base w c : Nat} {x1 : Option Nat} {x2 x3 : Int32} (hq : q = 16 ∨ q = 17) (hb : base + 64 ≤ 1664) (hw : w < 8) : ∀ (n j : Nat) (F : Nat → Nat → Int32), j ≤ 8 → 8 < j + n → ∃ G, (∀ r, f_X10_fillPair_61 N r n (Hp m F L T) (some q) x1 x2 x3 (nI base) (nI w) (nI c) (nI j) = r (Hp m G L T) (some q) x1 x2 x3 (nI base) (nI w + (-1))) ∧ (∀ p, p ≠ q → G p = F p) ∧ (∀ i, i < 8 → j ≤ i → G q (base + 8 * w + i) = F q (base + i) + nI c) ∧ (∀ y, (y < base + 8 * w + j ∨ base + 8 * w + 8 ≤ y) → G q y = F q y) := by
  intro n
  induction n with
  | zero => intro j F h1 h2; omega
  | succ n ih =>
    intro j F h1 h2
    by_cases hj : j = 8
    · subst hj
      refine ⟨F, fun r => ?_, fun _ _ => rfl, fun i hi hi2 => by omega, fun _ _ => rfl⟩
      rw [f_X10_fillPair_61, if_pos (by decide)]
    · have hk : ¬ (8 : Int32) ≤ nI j := nI_ge (a := j) (b := 8) (by omega) (by omega)
      obtain ⟨G, g1, g2, g3, g4⟩ := ih (j + 1) (up2 F q (base + 8 * w + j) (F q (base + j) + nI c)) (by omega) (by omega)
      refine ⟨G, fun r => ?_, fun p hp => by rw [g2 p hp, up2_ne hp], fun i hi hi2 => ?_, fun y hy => ?_⟩
      · rw [f_X10_fillPair_61, if_neg hk]
        have e1 : nI base + nI j = nI (base + j) := nI_add _ _
        have e2 : nI base + nI w * 8 + nI j = nI (base + 8 * w + j) := by
          rw [show (8 : Int32) = nI 8 from rfl, pk_mul, nI_add, nI_add, Nat.mul_comm w 8]
        simp only [e1, e2, (gN_T hq (show base + j < 1664 by omega)).1, (gN_T hq (show base + 8 * w + j < 1664 by omega)).2, nI_1, Option.bind_some]
        exact g1 r
      · by_cases h : i = j
        · subst h
          rw [g4 _ (by omega), up2_s]
        · rw [g3 i hi (by omega), up2_o (by omega)]
      · rw [g4 y (by omega), up2_o (by omega)]
theorem C_fill_41 {q f d : Nat} (hN : 5000 ≤ N) (hq : q = 16 ∨ q = 17) (hf : f ≤ 2) (hd : d < D) {base : Nat} (hb : base + 64 ≤ 1664) (h0 : Nat → Nat) : ∀ (n c : Nat) (F : Nat → Nat → Int32), CV m F L T P S D → c ≤ 8 → c < n → (∀ i, i < 8 → 0 < c → F q (base + i) = nI (h0 i)) → (∀ y, 8 * c ≤ y → y < 64 → F q (base + y) = nI (h0 (y % 8) + hvN P (S d) (f + 1) (y / 8) d)) → ∃ G, f_X10_fillPair_41 N n (Hp m F L T) (some q) (some 4) (nI f) (nI d) (nI base) (nI c + (-1)) = some ((), Hp m G L T) ∧ (∀ p, p ≠ q → G p = F p) ∧ (∀ y, y < 64 → G q (base + y) = nI (h0 (y % 8) + hvN P (S d) (f + 1) (y / 8) d)) ∧ (∀ y, (y < base ∨ base + 64 ≤ y) → G q y = F q y) := by
  intro n
  induction n with
  | zero => intro c F _ h1 h2; omega
  | succ n ih =>
    intro c F cv h1 h2 h3 h4
    by_cases hc : c = 0
    · subst hc
      refine ⟨F, ?_, fun _ _ => rfl, fun y hy => h4 y (by omega) hy, fun _ _ => rfl⟩
      rw [f_X10_fillPair_41, if_pos (by decide)]
    · obtain ⟨w, rfl⟩ : ∃ w, c = w + 1 := ⟨c - 1, by omega⟩
      have hw : w < 8 := by omega
      obtain ⟨G1, g1, g2, g3, g4⟩ := C_fill_in (N := N) (m := m) (L := L) (T := T) (x1 := some 4) (x2 := nI f) (x3 := nI d) (c := hvN P (S d) (f + 1) w d) hq hb hw N 0 F (by omega) (by omega)
      have cv1 : CV m G1 L T P S D := cv.tab (fun p p1 p2 p3 => g2 p (by omega))
      obtain ⟨G, r1, r2, r3, r4⟩ := ih w G1 cv1 (by omega) (by omega) (fun i hi hw0 => by rw [g4 _ (by omega)]; exact h3 i hi (by omega)) (fun y hy hy2 => by
        by_cases hy3 : y < 8 * w + 8
        · have := g3 (y - 8 * w) (by omega) (by omega)
          rw [show base + 8 * w + (y - 8 * w) = base + y by omega, h3 _ (by omega) (by omega), nI_add] at this
          rw [this, show y % 8 = y - 8 * w by omega, show y / 8 = w by omega]
        · rw [g4 _ (by omega)]
          exact h4 y (by omega) hy2)
      refine ⟨G, ?_, fun p hp => by rw [r2 p hp, g2 p hp], r3, fun y hy => by rw [r4 y hy, g4 y (by omega)]⟩
      rw [f_X10_fillPair_41, pk_m1, if_neg (nI_pos (by omega)), nI_1]
      have e := C_hIn (N := N) cv (t := f + 1) (w := w) (d := d) (by omega) (by omega) hd
      have g1' := g1 (f_X10_fillPair_41 N n)
      rw [show nI 0 = 0 from rfl] at g1'
      simp only [e, Option.bind_some, g1']
      exact r1
theorem C_fill_9 {q f d : Nat} (hN : 5000 ≤ N) (hq : q = 16 ∨ q = 17) (hf : f ≤ 2) (hd : d < D) {base : Nat} (hb : base + 64 ≤ 1664) : ∀ (n i : Nat) (F : Nat → Nat → Int32), CV m F L T P S D → i ≤ 8 → 8 < i + n → (∀ j, j < i → F q (base + j) = nI (hvN P (S d) f j d)) → ∃ G, f_X10_fillPair_9 N n (Hp m F L T) (some q) (some 4) (nI f) (nI d) (nI base) (nI i) = some ((), Hp m G L T) ∧ (∀ p, p ≠ q → G p = F p) ∧ (∀ y, y < 64 → G q (base + y) = nI (pairN P (S d) f y d)) ∧ (∀ y, (y < base ∨ base + 64 ≤ y) → G q y = F q y) := by
  intro n
  induction n with
  | zero => intro i F _ h1 h2; omega
  | succ n ih =>
    intro i F cv h1 h2 h3
    by_cases hi : i = 8
    · subst hi
      obtain ⟨G, r1, r2, r3, r4⟩ := C_fill_41 (N := N) (m := m) (L := L) (T := T) (P := P) (S := S) (f := f) (d := d) hN hq hf hd hb (fun j => hvN P (S d) f j d) N 8 F cv (by omega) (by omega) (fun j hj _ => h3 j hj) (fun y hy hy2 => by omega)
      refine ⟨G, ?_, r2, r3, r4⟩
      rw [f_X10_fillPair_9, if_pos (by decide)]
      exact r1
    · have hk : ¬ (8 : Int32) ≤ nI i := nI_ge (a := i) (b := 8) (by omega) (by omega)
      obtain ⟨G, r1, r2, r3, r4⟩ := ih (i + 1) (up2 F q (base + i) (nI (hvN P (S d) f i d))) (cv.tab (fun p p1 p2 p3 => up2_ne (by omega))) (by omega) (by omega) (fun j hj => by
        by_cases h : j = i
        · subst h; rw [up2_s]
        · rw [up2_o (by omega)]; exact h3 j (by omega))
      refine ⟨G, ?_, fun p hp => by rw [r2 p hp, up2_ne hp], r3, fun y hy => by rw [r4 y hy, up2_o (by omega)]⟩
      rw [f_X10_fillPair_9, if_neg hk]
      simp only [C_hIn (N := N) cv (t := f) (w := i) (d := d) (by omega) (by omega) hd, nI_add, (gN_T hq (show base + i < 1664 by omega)).2, nI_1, Option.bind_some]
      exact r1
theorem C_fill {q f d : Nat} (hN : 5000 ≤ N) (hq : q = 16 ∨ q = 17) (hf : f ≤ 2) (cv : CV m F L T P S D) (hd : d < D) : ∃ G, f_X10_fillPair N (Hp m F L T) (some q) (some 4) (nI f) (nI d) = some ((), Hp m G L T) ∧ (∀ p, p ≠ q → G p = F p) ∧ (∀ y, y < 64 → G q (64 * d + y) = nI (pairN P (S d) f y d)) ∧ (∀ y, (y < 64 * d ∨ 64 * d + 64 ≤ y) → G q y = F q y) := by
  have hD : D ≤ 26 := cv.2.2.2.2.2.2.2.2.2.2.2.2
  obtain ⟨G, r1, r2⟩ := C_fill_9 (N := N) (m := m) (L := L) (T := T) (P := P) (S := S) (f := f) (d := d) hN hq hf hd (base := 64 * d) (by omega) N 0 F cv (by omega) (by omega) (fun j hj => by omega)
  refine ⟨G, ?_, r2⟩
  simp only [f_X10_fillPair, f_X10_fillPair_0]
  rw [show (64 : Int32) = nI 64 from rfl, pk_mul, Nat.mul_comm d 64]
  exact r1
/-- entries of other days stand -/
def sameT (F G : Nat → Nat → Int32) (d : Nat) : Prop := (∀ p, p ≠ 16 → p ≠ 17 → p ≠ 18 → G p = F p) ∧ ∀ e, e ≠ d → G 18 e = F 18 e ∧ ∀ x, x < 64 → G 16 (64 * e + x) = F 16 (64 * e + x) ∧ G 17 (64 * e + x) = F 17 (64 * e + x)
theorem C_takeDay {d : Nat} (hN : 5000 ≤ N) (cv : CV m F L T P S D) (hd : d < D) : ∃ G, f_X10_takeDay N (Hp m F L T) (some 15) (some 4) (nI d) = some ((), Hp m G L T) ∧ dayT G P S d ∧ sameT F G d := by
  have hD : D ≤ 26 := cv.2.2.2.2.2.2.2.2.2.2.2.2
  have k0 := cv.2.1
  have f1 := cv.2.2.2.2.2.1
  generalize hF1 : up2 F 18 d (nI (rcN (fun e => freshN P (S e)) (P 0) d)) = F1
  have cv1 : CV m F1 L T P S D := cv.tab (fun p p1 p2 p3 => by rw [← hF1]; exact up2_ne p3)
  obtain ⟨G1, a1, a2, a3, a4⟩ := C_fill (N := N) (q := 16) (f := 0) (d := d) hN (Or.inl rfl) (by omega) cv1 hd
  have cv2 : CV m G1 L T P S D := cv1.tab (fun p p1 p2 p3 => a2 p p1)
  obtain ⟨G2, b1, b2, b3, b4⟩ := C_fill (N := N) (q := 17) (f := 2) (d := d) hN (Or.inr rfl) (by omega) cv2 hd
  have a1' : f_X10_fillPair N (Hp m F1 L T) (some 16) (some 4) 0 (nI d) = some ((), Hp m G1 L T) := a1
  have b1' : f_X10_fillPair N (Hp m G1 L T) (some 17) (some 4) 2 (nI d) = some ((), Hp m G2 L T) := b1
  refine ⟨G2, ?_, ⟨?_, fun x hx => ⟨?_, b3 x hx⟩⟩, fun p p1 p2 p3 => ?_, fun e he => ⟨?_, fun x hx => ⟨?_, ?_⟩⟩⟩
  · simp only [f_X10_takeDay, f_X10_takeDay_0, f1, C_reach hN cv hd k0, (gN_18 (show d < 26 by omega)).2, hF1, a1', b1', gI_0, gI_2, gI_4, gI_9, gI_15, gI_21, gI_49, gP_0, gP_2, gP_4, gP_9, gP_15, gP_21, gP_49, gR_0, gR_2, gR_4, gR_9, gR_15, gR_21, gR_49, gL_53, gL_54, oPz_0, oPz_1, Option.bind_some, c10, c01, cm1, c00, if_true, if_false, ne_eq, not_true_eq_false, not_false_eq_true]
  · rw [b2 18 (by decide), a2 18 (by decide), ← hF1, up2_s]
  · rw [b2 16 (by decide)]; exact a3 x hx
  · rw [b2 p p2, a2 p p1, ← hF1, up2_ne p3]
  · rw [b2 18 (by decide), a2 18 (by decide), ← hF1, up2_o he]
  · rw [b2 16 (by decide), a4 _ (by omega), ← hF1, up2_ne (by decide)]
  · rw [b4 _ (by omega), a2 17 (by decide), ← hF1, up2_ne (by decide)]
theorem dayT.keep {G : Nat → Nat → Int32} {d e : Nat} (h : dayT F P S e) (s : sameT F G d) (he : e ≠ d) : dayT G P S e := by
  refine ⟨by rw [(s.2 e he).1]; exact h.1, fun x hx => ?_⟩
  rw [((s.2 e he).2 x hx).1, ((s.2 e he).2 x hx).2]
  exact h.2 x hx
theorem sh_wld {P : Nat → Nat} {S : Nat → Nat} {x d k : Nat} {hf : Nat} (h3 : P 3 ≤ 4) (hx : x < 4096) (hd : d ≤ 25) (hk : k ≤ d) : (loadN P (S (d - k)) (wldN x) (d - k) + if d - k = 1000 then 1 else 0) >>> (k * hf) = (pairN P (S (d - k)) 0 (x % 64) (d - k) + pairN P (S (d - k)) 2 (x / 64) (d - k)) >>> (k * hf) := by
  rw [if_neg (by omega), Nat.add_zero, load_pair h3 hx]
theorem C_shIn_l {d x rc : Nat} (hN : 5000 ≤ N) (h3 : P 3 ≤ 4) (h1 : P 1 ≤ 1) (h2 : P 2 ≤ 200) (f4 : F 15 4 = nI (P 1)) (f5 : F 15 5 = nI (P 2)) (ht : ∀ e, e ≤ d → dayT F P S e) (hd : d ≤ 25) (hx : x < 4096) (hrc : rc ≤ 3) (hrd : rc ≤ d) : ∀ (n k : Nat), k ≤ rc + 1 → rc + 1 < k + n → f_X10_shownIn_25 N n (Hp m F L T) (some 15) (nI d) (nI (x % 64)) (nI (x / 64)) (nI rc) (nI (sumN (fun k => (pairN P (S (d - k)) 0 (x % 64) (d - k) + pairN P (S (d - k)) 2 (x / 64) (d - k)) >>> (k * P 1)) k)) (nI k) = some (nI (sumN (fun k => (pairN P (S (d - k)) 0 (x % 64) (d - k) + pairN P (S (d - k)) 2 (x / 64) (d - k)) >>> (k * P 1)) (rc + 1) % P 2), Hp m F L T) := by
  have pl : ∀ e f y, e ≤ 25 → y < 64 → pairN P (S e) f y e ≤ 140 := fun e f y he hy => by
    have a := hv_le (P := P) (s := S e) (t := f) (w := y % 8) (d := e) (by omega) (by omega)
    have b := hv_le (P := P) (s := S e) (t := f + 1) (w := y / 8) (d := e) (by omega) (by omega)
    unfold pairN
    omega
  have gl : ∀ k, (pairN P (S (d - k)) 0 (x % 64) (d - k) + pairN P (S (d - k)) 2 (x / 64) (d - k)) >>> (k * P 1) ≤ 280 := fun k => by
    have a := pl (d - k) 0 (x % 64) (by omega) (by omega)
    have b := pl (d - k) 2 (x / 64) (by omega) (by omega)
    rw [Nat.shiftRight_eq_div_pow]
    exact Nat.le_trans (Nat.div_le_self _ _) (by omega)
  intro n
  induction n with
  | zero => intro k a b; omega
  | succ n ih =>
    intro k h5 h6
    rw [f_X10_shownIn_25]
    by_cases hk : k = rc + 1
    · subst hk
      rw [if_pos (nI_lt (by omega) (by omega))]
      have hb : sumN (fun k => (pairN P (S (d - k)) 0 (x % 64) (d - k) + pairN P (S (d - k)) 2 (x / 64) (d - k)) >>> (k * P 1)) (rc + 1) ≤ 280 * (rc + 1) := sumN_le (fun k _ => gl k)
      simp only [f5, leftN (N := N) (A := Hp m F L T) (show sumN (fun k => (pairN P (S (d - k)) 0 (x % 64) (d - k) + pairN P (S (d - k)) 2 (x / 64) (d - k)) >>> (k * P 1)) (rc + 1) < 2 ^ 31 by omega) (show P 2 < 2 ^ 31 by omega), gI_0, gI_2, gI_4, gI_9, gI_15, gI_21, gI_49, gP_0, gP_2, gP_4, gP_9, gP_15, gP_21, gP_49, gR_0, gR_2, gR_4, gR_9, gR_15, gR_21, gR_49, gL_53, gL_54, oPz_0, oPz_1, Option.bind_some, c10, c01, cm1, c00, if_true, if_false, ne_eq, not_true_eq_false, not_false_eq_true]
    · rw [if_neg (nI_nlt (show k ≤ rc by omega) (by omega))]
      have ih' := ih (k + 1) (by omega) (by omega)
      rw [sumN] at ih'
      have hkh : k * P 1 ≤ 3 := by
        rcases (show P 1 = 0 ∨ P 1 = 1 by omega) with q | q <;> rw [q] <;> omega
      obtain ⟨-, t2⟩ := ht (d - k) (by omega)
      have e1 : nI (d - k) * 64 + nI (x % 64) = nI (64 * (d - k) + x % 64) := by rw [show (64 : Int32) = nI 64 from rfl, pk_mul, nI_add, Nat.mul_comm]
      have e2 : nI (d - k) * 64 + nI (x / 64) = nI (64 * (d - k) + x / 64) := by rw [show (64 : Int32) = nI 64 from rfl, pk_mul, nI_add, Nat.mul_comm]
      have em : nI k * nI (P 1) &&& 31 = nI (k * P 1) &&& 31 := by rw [pk_mul]
      have a := pl (d - k) 0 (x % 64) (by omega) (by omega)
      have b := pl (d - k) 2 (x / 64) (by omega) (by omega)
      simp only [pk_sub (show k ≤ d by omega), e1, e2, (gN_16 (show 64 * (d - k) + x % 64 < 1664 by omega)).1, (gN_17 (show 64 * (d - k) + x / 64 < 1664 by omega)).1, (t2 (x % 64) (by omega)).1, (t2 (x / 64) (by omega)).2, f4, em, nI_add, nI_1, gI_0, gI_2, gI_4, gI_9, gI_15, gI_21, gI_49, gP_0, gP_2, gP_4, gP_9, gP_15, gP_21, gP_49, gR_0, gR_2, gR_4, gR_9, gR_15, gR_21, gR_49, gL_53, gL_54, oPz_0, oPz_1, Option.bind_some, c10, c01, cm1, c00, if_true, if_false, ne_eq, not_true_eq_false, not_false_eq_true]
      rw [shrN (by omega) (by omega), nI_add]
      rw [Nat.shiftRight_eq_div_pow] at ih'
      exact ih'
theorem C_shIn {d x : Nat} (hN : 5000 ≤ N) (h3 : P 3 ≤ 4) (h0 : P 0 ≤ 3) (h1 : P 1 ≤ 1) (h2 : P 2 ≤ 200) (f4 : F 15 4 = nI (P 1)) (f5 : F 15 5 = nI (P 2)) (ht : ∀ e, e ≤ d → dayT F P S e) (hd : d ≤ 25) (hx : x < 4096) : f_X10_shownIn N (Hp m F L T) (some 15) (nI x) (nI d) = some (nI (shW P S x d), Hp m F L T) := by
  have r1 := rcN_le (fun e => freshN P (S e)) (P 0) d
  have r2 := rcN_le2 (fun e => freshN P (S e)) (P 0) d
  have key := C_shIn_l (N := N) (m := m) (L := L) (T := T) hN h3 h1 h2 f4 f5 ht hd hx (rc := rcN (fun e => freshN P (S e)) (P 0) d) (by omega) r2 N 0 (by omega) (by omega)
  have e1 : nI x &&& 63 = nI (x % 64) := fa_mask x 6
  have e2 : nI x >>> ((6 : Int32) &&& 31) = nI (x / 64) := shrN (s := x) (t := 6) (by omega) (by decide)
  have e3 : shW P S x d = sumN (fun k => (pairN P (S (d - k)) 0 (x % 64) (d - k) + pairN P (S (d - k)) 2 (x / 64) (d - k)) >>> (k * P 1)) (rcN (fun e => freshN P (S e)) (P 0) d + 1) % P 2 := by
    unfold shW shN
    rw [sumN_congr (fun k hk => sh_wld (P := P) (S := S) (x := x) (d := d) (k := k) (hf := P 1) h3 hx hd (by omega))]
  have key' : f_X10_shownIn_25 N N (Hp m F L T) (some 15) (nI d) (nI (x % 64)) (nI (x / 64)) (nI (rcN (fun e => freshN P (S e)) (P 0) d)) 0 0 = some (nI (sumN (fun k => (pairN P (S (d - k)) 0 (x % 64) (d - k) + pairN P (S (d - k)) 2 (x / 64) (d - k)) >>> (k * P 1)) (rcN (fun e => freshN P (S e)) (P 0) d + 1) % P 2), Hp m F L T) := key
  rw [e3]
  simp only [f_X10_shownIn, f_X10_shownIn_0, (gN_18 (show d < 26 by omega)).1, (ht d (Nat.le_refl _)).1, e1, e2, key', gI_0, gI_2, gI_4, gI_9, gI_15, gI_21, gI_49, gP_0, gP_2, gP_4, gP_9, gP_15, gP_21, gP_49, gR_0, gR_2, gR_4, gR_9, gR_15, gR_21, gR_49, gL_53, gL_54, oPz_0, oPz_1, Option.bind_some, c10, c01, cm1, c00, if_true, if_false, ne_eq, not_true_eq_false, not_false_eq_true]
end WTs
/-- the worlds have taken the port -/
def TV (F : Nat → Nat → Int32) (P S : Nat → Nat) (D : Nat) : Prop := F 15 4 = nI (P 1) ∧ F 15 5 = nI (P 2) ∧ F 15 6 = nI (P 4) ∧ F 15 7 = nI (8 ^ P 3) ∧ ∀ e, e < D → dayT F P S e
theorem p8_le {n : Nat} (h : n ≤ 4) : 8 ^ n ≤ 4096 := by
  have : 8 ^ n ≤ 8 ^ 4 := Nat.pow_le_pow_right (by decide) h
  exact this
theorem p8_eq (n : Nat) : 2 ^ (3 * n) = 8 ^ n := by rw [Nat.pow_mul]
theorem wld_e {n : Nat} (h : n ≤ 4) : (1 : Int32) <<< (((3 : Int32) * nI n) &&& 31) = nI (8 ^ n) := by
  rw [show (3 : Int32) = nI 3 from rfl, pk_mul, shl1 (by omega), p8_eq]
section WTt
variable {N m : Nat} {L : Nat → Nat → Option Nat} {T : Nat → Nat} {P S : Nat → Nat}
theorem C_take_l {D : Nat} (hN : 5000 ≤ N) (hP : P 4 ≤ D) (hP4 : P 4 ≤ 24) : ∀ (n i : Nat) (F : Nat → Nat → Int32), CV m F L T P S D → F 15 6 = nI (P 4) → (∀ e, e < i → dayT F P S e) → i ≤ P 4 → P 4 < i + n → ∃ G, f_X10_take_38 N n (Hp m F L T) (some 15) (some 4) (nI i) = some ((), Hp m G L T) ∧ (∀ p, p ≠ 16 → p ≠ 17 → p ≠ 18 → G p = F p) ∧ ∀ e, e < P 4 → dayT G P S e := by
  intro n
  induction n with
  | zero => intro i F _ _ _ h1 h2; omega
  | succ n ih =>
    intro i F cv f6 ht h1 h2
    rw [f_X10_take_38]
    simp only [f6, gI_0, gI_2, gI_4, gI_9, gI_15, gI_21, gI_49, gP_0, gP_2, gP_4, gP_9, gP_15, gP_21, gP_49, gR_0, gR_2, gR_4, gR_9, gR_15, gR_21, gR_49, gL_53, gL_54, oPz_0, oPz_1, Option.bind_some, c10, c01, cm1, c00, if_true, if_false, ne_eq, not_true_eq_false, not_false_eq_true]
    by_cases hi : i = P 4
    · rw [if_pos (by rw [hi]; exact Int32.le_refl _)]
      exact ⟨F, rfl, fun _ _ _ _ => rfl, by rw [← hi]; exact ht⟩
    · rw [if_neg (nI_ge (show i < P 4 by omega) (by omega))]
      obtain ⟨G1, a1, a2, a3⟩ := C_takeDay (N := N) hN cv (show i < D by omega)
      obtain ⟨G, b1, b2, b3⟩ := ih (i + 1) G1 (cv.tab a3.1) (by rw [a3.1 15 (by decide) (by decide) (by decide)]; exact f6) (fun e he => by
        by_cases h : e = i
        · rw [h]; exact a2
        · exact (ht e (by omega)).keep a3 h) (by omega) (by omega)
      refine ⟨G, ?_, fun p p1 p2 p3 => by rw [b2 p p1 p2 p3, a3.1 p p1 p2 p3], b3⟩
      simp only [a1, nI_1, gI_0, gI_2, gI_4, gI_9, gI_15, gI_21, gI_49, gP_0, gP_2, gP_4, gP_9, gP_15, gP_21, gP_49, gR_0, gR_2, gR_4, gR_9, gR_15, gR_21, gR_49, gL_53, gL_54, oPz_0, oPz_1, Option.bind_some, c10, c01, cm1, c00, if_true, if_false, ne_eq, not_true_eq_false, not_false_eq_true]
      exact b1
theorem C_take {F : Nat → Nat → Int32} {D : Nat} (hN : 5000 ≤ N) (cv : CV m F L T P S D) (hP : P 4 ≤ D) (hP4 : P 4 ≤ 24) (c5 : F 4 5 = nI (P 4)) : ∃ G, f_X10_take N (Hp m F L T) (some 15) (some 4) = some ((), Hp m G L T) ∧ TV G P S (P 4) ∧ (∀ p, p ≠ 15 → p ≠ 16 → p ≠ 17 → p ≠ 18 → G p = F p) ∧ ∀ k, k < 4 → G 15 k = F 15 k := by
  have h3 := cv.1
  generalize hF1 : up2 (up2 (up2 (up2 F 15 4 (nI (P 1))) 15 5 (nI (P 2))) 15 6 (nI (P 4))) 15 7 (nI (8 ^ P 3)) = F1
  have fp : ∀ p, p ≠ 15 → F1 p = F p := fun p hp => by rw [← hF1]; simp (disch := omega) only [up2_ne, up2_o, up2_s]
  have fk : ∀ k, k < 4 → F1 15 k = F 15 k := fun k hk => by rw [← hF1]; simp (disch := omega) only [up2_ne, up2_o, up2_s]
  have k4 : F1 15 4 = nI (P 1) := by rw [← hF1]; simp (disch := omega) only [up2_ne, up2_o, up2_s]
  have k5 : F1 15 5 = nI (P 2) := by rw [← hF1]; simp (disch := omega) only [up2_ne, up2_o, up2_s]
  have k6 : F1 15 6 = nI (P 4) := by rw [← hF1]; simp (disch := omega) only [up2_ne, up2_o, up2_s]
  have k7 : F1 15 7 = nI (8 ^ P 3) := by rw [← hF1]; simp (disch := omega) only [up2_ne, up2_o, up2_s]
  have cv1 : CV m F1 L T P S D := by
    obtain ⟨a1, a2, a3, a4, a5, a6, a7, a8, a9, a10, a11, a12, a13⟩ := cv
    have e4 := fp 4 (by decide)
    refine ⟨a1, a2, a3, a4, a5, by rw [e4]; exact a6, by rw [e4]; exact a7, by rw [e4]; exact a8, by rw [e4]; exact a9, by rw [e4]; exact a10, fun i hi => ?_, fun d hd => by rw [fp 8 (by decide)]; exact a12 d hd, a13⟩
    obtain ⟨t, q1, q2, q3, q4, q5, q6⟩ := a11 i hi
    exact ⟨t, q1, q2, q3, q4, by rw [fp t (by omega)]; exact q5, by rw [fp t (by omega)]; exact q6⟩
  obtain ⟨G, b1, b2, b3⟩ := C_take_l (N := N) (m := m) (L := L) (T := T) (P := P) (S := S) hN hP hP4 N 0 F1 cv1 k6 (fun e he => by omega) (by omega) (by omega)
  have b1' : f_X10_take_38 N N (Hp m F1 L T) (some 15) (some 4) 0 = some ((), Hp m G L T) := b1
  have g11 := b2 15 (by decide) (by decide) (by decide)
  refine ⟨G, ?_, ⟨by rw [g11]; exact k4, by rw [g11]; exact k5, by rw [g11]; exact k6, by rw [g11]; exact k7, b3⟩, fun p p0 p1 p2 p3 => by rw [b2 p p1 p2 p3, fp p p0], fun k hk => by rw [g11]; exact fk k hk⟩
  have w1 : F 4 2 = nI (P 1) := cv.2.2.2.2.2.2.1
  have w2 : up2 F 15 4 (nI (P 1)) 4 3 = nI (P 2) := by simp (disch := omega) only [up2_ne, up2_o, up2_s]; exact cv.2.2.2.2.2.2.2.1
  have w3 : up2 (up2 F 15 4 (nI (P 1))) 15 5 (nI (P 2)) 4 5 = nI (P 4) := by simp (disch := omega) only [up2_ne, up2_o, up2_s]; exact c5
  have w4 : up2 (up2 (up2 F 15 4 (nI (P 1))) 15 5 (nI (P 2))) 15 6 (nI (P 4)) 4 4 = nI (P 3) := by simp (disch := omega) only [up2_ne, up2_o, up2_s]; exact cv.2.2.2.2.2.2.2.2.1
  simp only [f_X10_take, f_X10_take_0, w1, w2, w3, w4, wld_e h3, hF1, b1', gI_0, gI_2, gI_4, gI_9, gI_15, gI_21, gI_49, gP_0, gP_2, gP_4, gP_9, gP_15, gP_21, gP_49, gR_0, gR_2, gR_4, gR_9, gR_15, gR_21, gR_49, gL_53, gL_54, oPz_0, oPz_1, Option.bind_some, c10, c01, cm1, c00, if_true, if_false, ne_eq, not_true_eq_false, not_false_eq_true]
end WTt
