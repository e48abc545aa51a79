/-! PORT, the draft: a thing more, a day more -/
theorem Hp_new {m c : Nat} {F : Nat → Nat → Int32} {L : Nat → Nat → Option Nat} {T : Nat → Nat} : Hp m F L T ++ [.inr (c, [.int 0, .int 0])] = Hp (m + 1) (up F (62 + m) (fun _ => 0)) L (up T (62 + m) c) := by
  unfold Hp
  rw [show 62 + (m + 1) = (62 + m) + 1 by omega, List.range_succ, List.map_append]
  congr 1
  · apply List.map_congr_left
    intro k hk
    have := List.mem_range.mp hk
    rw [up_n (by omega), up_n (by omega)]
  · rw [List.map_singleton, up_s, up_s, cG_t (by omega)]
section TH
variable {N m : Nat} {F : Nat → Nat → Int32} {L : Nat → Nat → Option Nat} {T : Nat → Nat}
theorem oPT_H {k j : Nat} {x : Int32} (h : 62 ≤ k) (h2 : k < 62 + m) (ht : isTh (T k) = true) (hj : j < 2) : oPT (Hp m F L T) (some k) j (.int x) = some (Hp m (up2 F k j x) L T) := by
  unfold oPT
  rw [gT_th h h2, Option.bind_some, if_pos ht]
  refine oP_H h2 (cG_t h _ _ _) (by simpa using hj) ?_
  rw [cG_t h]
  match j, hj with
  | 0, _ => simp [upd]
  | 1, _ => simp [upd]
theorem oOb_H {k : Nat} (h : 62 ≤ k) (h2 : k < 62 + m) : oOb (Hp m F L T) (some k) = some () := by
  unfold oOb
  rw [gT_th h h2]
  rfl
theorem X7_in {k : Nat} {a b : Int32} (h : 62 ≤ k) (h2 : k < 62 + m) (ht : isTh (T k) = true) : f_X7_init N (Hp m F L T) (some k) a b = some ((), Hp m (up2 (up2 F k 0 a) k 1 b) L T) := by
  simp only [f_X7_init, f_X7_init_0, oOb_H h h2, oPT_H h h2 ht (show 0 < 2 by decide), oPT_H h h2 ht (show 1 < 2 by decide), Option.bind_some]
theorem clsTh : ∀ k, isTh (clsOf k) = true := by
  intro k
  unfold clsOf
  repeat' split
  all_goals rfl
/-- a new thing's fields -/
def q_nf (F : Nat → Nat → Int32) (k : Nat) (a b : Int32) : Nat → Nat → Int32 := up2 (up2 (up F k (fun _ => 0)) k 0 a) k 1 b
theorem q_nf_0 {k : Nat} {a b : Int32} : q_nf F k a b k 0 = a := by
  unfold q_nf
  rw [up2_o (by decide), up2_s]
theorem q_nf_1 {k : Nat} {a b : Int32} : q_nf F k a b k 1 = b := by
  unfold q_nf
  rw [up2_s]
theorem q_nf_n {k q : Nat} {a b : Int32} (h : q ≠ k) : q_nf F k a b q = F q := by
  unfold q_nf
  rw [up2_ne h, up2_ne h, up_n h]
theorem X2_made {kd : Nat} {a b : Int32} (h1 : 1 ≤ kd) (h5 : kd ≤ 5) (hm : m ≤ 4000) : f_X2_made N (Hp m F L T) (nI kd) a b = some (some (62 + m), Hp (m + 1) (q_nf F (62 + m) a b) L (up T (62 + m) (clsOf kd))) := by
  have hl : (Hp m F L T).length = 62 + m := Hp_len m F L T
  have hl2 : (62 + m < 1000000) = True := eq_true (by omega)
  have i1 : 62 ≤ 62 + m := by omega
  have i2 : 62 + m < 62 + (m + 1) := by omega
  have c1 : (0 + 1 ≤ 1 ∧ 0 + 2 ≤ 2) = True := eq_true ⟨by omega, by omega⟩
  have c2 : (0 + 1 + 0 ≤ 1 ∧ 0 + 2 + 0 ≤ 2) = True := eq_true ⟨by omega, by omega⟩
  have th : ∀ c, isTh c = true → isTh (up T (62 + m) c (62 + m)) = true := fun c hc => by rw [up_s]; exact hc
  rcases (show kd = 1 ∨ kd = 2 ∨ kd = 3 ∨ kd = 4 ∨ kd = 5 by omega) with rfl | rfl | rfl | rfl | rfl
  · have e2 : ¬ nI 1 = 2 := by decide
    have e3 : ¬ nI 1 = 3 := by decide
    have e4 : ¬ nI 1 = 4 := by decide
    have e5 : ¬ nI 1 = 5 := by decide
    simp only [f_X2_made, f_X2_made_0, f_X4_init, f_X4_init_0, e2, e3, e4, e5, hl, hl2, c1, c2, Hp_new, oOb_H i1 i2, X7_in i1 i2 (th 4 rfl), if_true, if_false, Option.bind_some]
    rfl
  · have e2 : nI 2 = 2 := rfl
    simp only [f_X2_made, f_X2_made_0, f_X1_init, f_X1_init_0, f_X4_init, f_X4_init_0, e2, hl, hl2, c1, c2, Hp_new, oOb_H i1 i2, X7_in i1 i2 (th 1 rfl), if_true, if_false, Option.bind_some]
    rfl
  · have e2 : ¬ nI 3 = 2 := by decide
    have e3 : nI 3 = 3 := rfl
    have e4 : ¬ (3 : Int32) = 2 := by decide
    simp only [f_X2_made, f_X2_made_0, f_X9_init, f_X9_init_0, f_X4_init, f_X4_init_0, e3, e4, hl, hl2, c1, c2, Hp_new, oOb_H i1 i2, X7_in i1 i2 (th 8 rfl), if_true, if_false, Option.bind_some]
    rfl
  · have e3 : nI 4 = 4 := rfl
    have e4 : ¬ (4 : Int32) = 2 := by decide
    have e5 : ¬ (4 : Int32) = 3 := by decide
    simp only [f_X2_made, f_X2_made_0, f_X5_init, f_X5_init_0, e3, e4, e5, hl, hl2, c1, c2, Hp_new, oOb_H i1 i2, X7_in i1 i2 (th 5 rfl), if_true, if_false, Option.bind_some]
    rfl
  · have e3 : nI 5 = 5 := rfl
    have e4 : ¬ (5 : Int32) = 2 := by decide
    have e5 : ¬ (5 : Int32) = 3 := by decide
    have e6 : ¬ (5 : Int32) = 4 := by decide
    simp only [f_X2_made, f_X2_made_0, f_X8_init, f_X8_init_0, f_X5_init, f_X5_init_0, e3, e4, e5, e6, hl, hl2, c1, c2, Hp_new, oOb_H i1 i2, X7_in i1 i2 (th 7 rfl), if_true, if_false, Option.bind_some]
    rfl
end TH
/-- the draft holds P -/
def q_D (m : Nat) (F : Nat → Nat → Int32) (L : Nat → Nat → Option Nat) (T : Nat → Nat) (P : Nat → Nat) : Prop :=
  F 9 1 = nI (P 0) ∧ F 9 2 = nI (P 1) ∧ F 9 3 = nI (P 2) ∧ F 9 4 = nI (P 3) ∧ F 9 5 = nI (P 4) ∧ F 9 6 = nI (stN P) ∧ PT m F L T 9 P ∧ ∀ j, j < P 4 → F 13 j = nI (P (13 + j))
theorem q_D.mv {m : Nat} {F G : Nat → Nat → Int32} {L : Nat → Nat → Option Nat} {T P : Nat → Nat} (h : q_D m F L T P) (e : ∀ q, q ≠ 2 → G q = F q) : q_D m G L T P := by
  obtain ⟨h1, h2, h3, h4, h5, h6, h7, h8⟩ := h
  unfold q_D
  rw [e 9 (by decide), e 13 (by decide)]
  refine ⟨h1, h2, h3, h4, h5, h6, fun i hi => ?_, h8⟩
  obtain ⟨t, q1, q2, q3, q4, q5, q6⟩ := h7 i hi
  exact ⟨t, q1, q2, q3, q4, by rw [e t (by omega)]; exact q5, by rw [e t (by omega)]; exact q6⟩
def q_addT (P : Nat → Nat) (kd w : Nat) : Nat → Nat := fun j => if j = 3 then P 3 + 1 else if j = 5 + 2 * P 3 then kd else if j = 6 + 2 * P 3 then w else P j
def q_addD (P : Nat → Nat) (s : Nat) : Nat → Nat := fun j => if j = 4 then P 4 + 1 else if j = 13 + P 4 then s else P j
section QA
variable {P : Nat → Nat} {kd w s : Nat}
theorem q_aT3 : q_addT P kd w 3 = P 3 + 1 := if_pos rfl
theorem q_aTk : q_addT P kd w (5 + 2 * P 3) = kd := by
  unfold q_addT
  rw [if_neg (by omega), if_pos rfl]
theorem q_aTw : q_addT P kd w (6 + 2 * P 3) = w := by
  unfold q_addT
  rw [if_neg (by omega), if_neg (by omega), if_pos rfl]
theorem q_aTn {j : Nat} (h1 : j ≠ 3) (h2 : j ≠ 5 + 2 * P 3) (h3 : j ≠ 6 + 2 * P 3) : q_addT P kd w j = P j := by
  unfold q_addT
  rw [if_neg h1, if_neg h2, if_neg h3]
theorem q_aD4 : q_addD P s 4 = P 4 + 1 := if_pos rfl
theorem q_aDs : q_addD P s (13 + P 4) = s := by
  unfold q_addD
  rw [if_neg (by omega), if_pos rfl]
theorem q_aDn {j : Nat} (h1 : j ≠ 4) (h2 : j ≠ 13 + P 4) : q_addD P s j = P j := by
  unfold q_addD
  rw [if_neg h1, if_neg h2]
/-- what a port that is being read keeps to -/
def q_W (P : Nat → Nat) : Prop := P 0 ≤ 3 ∧ P 1 ≤ 1 ∧ 2 ≤ P 2 ∧ P 2 ≤ 200 ∧ P 3 ≤ 4 ∧ P 4 ≤ 12 ∧ (∀ i, i < P 3 → 1 ≤ P (5 + 2 * i) ∧ P (5 + 2 * i) ≤ 5 ∧ P (6 + 2 * i) ≤ 7) ∧ ∀ j, j < P 4 → P (13 + j) < 2 ^ P 3
theorem q_W.pv (h : q_W P) : PV P := by
  obtain ⟨h0, h1, h2, h3, h4, h5, h6, h7⟩ := h
  exact ⟨h0, h1, h3, h4, by omega, fun q => by omega, by omega, h6, h7⟩
theorem q_W.addT (h : q_W P) (h3 : P 3 < 4) (h4 : P 4 = 0) (k1 : 1 ≤ kd) (k5 : kd ≤ 5) (hw : w ≤ 7) : q_W (q_addT P kd w) := by
  obtain ⟨a0, a1, a2, a3, a4, a5, a6, a7⟩ := h
  unfold q_W
  rw [q_aT3, q_aTn (j := 0) (by omega) (by omega) (by omega), q_aTn (j := 1) (by omega) (by omega) (by omega), q_aTn (j := 2) (by omega) (by omega) (by omega), q_aTn (j := 4) (by omega) (by omega) (by omega)]
  refine ⟨a0, a1, a2, a3, by omega, a5, fun i hi => ?_, fun j hj => by omega⟩
  by_cases e : i = P 3
  · rw [e, q_aTk, q_aTw]
    exact ⟨k1, k5, hw⟩
  · rw [q_aTn (by omega) (by omega) (by omega), q_aTn (by omega) (by omega) (by omega)]
    exact a6 i (by omega)
theorem q_W.addD (h : q_W P) (h4 : P 4 < 12) (hs : s < 2 ^ P 3) : q_W (q_addD P s) := by
  obtain ⟨a0, a1, a2, a3, a4, a5, a6, a7⟩ := h
  unfold q_W
  rw [q_aD4, q_aDn (j := 0) (by omega) (by omega), q_aDn (j := 1) (by omega) (by omega), q_aDn (j := 2) (by omega) (by omega), q_aDn (j := 3) (by omega) (by omega)]
  refine ⟨a0, a1, a2, a3, a4, by omega, fun i hi => ?_, fun j hj => ?_⟩
  · rw [q_aDn (by omega) (by omega), q_aDn (by omega) (by omega)]
    exact a6 i hi
  · by_cases e : j = P 4
    · rw [e, q_aDs]; exact hs
    · rw [q_aDn (by omega) (by omega)]
      exact a7 j (by omega)
theorem stN_addT (h3 : P 3 < 4) : stN (q_addT P kd w) = stN P + if kd = 4 then 2 ^ P 3 else 0 := by
  unfold stN
  rw [q_aT3, sumN, q_aTk]
  congr 1
  exact sumN_congr (fun k hk => by rw [q_aTn (by omega) (by omega) (by omega)])
end QA
/-- what reading may change -/
def q_Ok (m : Nat) (L : Nat → Nat → Option Nat) (T : Nat → Nat) : Prop := ∀ i, i < 4 → L 12 i = none ∨ ∃ t, L 12 i = some t ∧ 62 ≤ t ∧ t < 62 + m ∧ isTh (T t) = true
def q_Fr (m : Nat) (F : Nat → Nat → Int32) (L : Nat → Nat → Option Nat) (T : Nat → Nat) (m' : Nat) (G : Nat → Nat → Int32) (L' : Nat → Nat → Option Nat) (T' : Nat → Nat) : Prop :=
  m ≤ m' ∧ (∀ q, q ≠ 2 → q ≠ 9 → q ≠ 13 → q < 62 + m → G q = F q) ∧ G 2 1 = F 2 1 ∧ (∀ q, q ≠ 12 → L' q = L q) ∧ (∀ q, q < 62 + m → T' q = T q) ∧ (q_Ok m L T → q_Ok m' L' T')
section FR
variable {m m' m'' : Nat} {F G H : Nat → Nat → Int32} {L L' L'' : Nat → Nat → Option Nat} {T T' T'' : Nat → Nat}
theorem q_Fr.refl : q_Fr m F L T m F L T := ⟨Nat.le_refl _, fun _ _ _ _ _ => rfl, rfl, fun _ _ => rfl, fun _ _ => rfl, fun h => h⟩
theorem q_Fr.trans (h : q_Fr m F L T m' G L' T') (k : q_Fr m' G L' T' m'' H L'' T'') : q_Fr m F L T m'' H L'' T'' := by
  obtain ⟨h1, h2, h3, h4, h5, h6⟩ := h
  obtain ⟨k1, k2, k3, k4, k5, k6⟩ := k
  exact ⟨by omega, fun q a b c d => (k2 q a b c (by omega)).trans (h2 q a b c d), k3.trans h3, fun q a => (k4 q a).trans (h4 q a), fun q a => (k5 q (by omega)).trans (h5 q a), fun a => k6 (h6 a)⟩
theorem q_C2.fr (h : q_C2 F G) : q_Fr m F L T m G L T := ⟨Nat.le_refl _, fun q a _ _ _ => h.1 q a, h.2, fun _ _ => rfl, fun _ _ => rfl, fun h => h⟩
theorem q_Fr.cb {n : Nat} {B : Nat → Nat} (h : q_Fr m F L T m' G L' T') (cb : q_CB n B F) : q_CB n B G := by
  obtain ⟨c1, c2, c3⟩ := cb
  exact ⟨c1, by rw [h.2.2.1]; exact c2, fun i hi => by rw [h.2.1 3 (by decide) (by decide) (by decide) (by omega)]; exact c3 i hi⟩
theorem q_Fr.d {k : Nat} {v : Int32} (hk : k = 7 ∨ k = 9) {j : Nat} : q_Fr m F L T m (up2 F k j v) L T := by
  refine ⟨Nat.le_refl _, fun q a b c _ => up2_ne (by omega), ?_, fun _ _ => rfl, fun _ _ => rfl, fun h => h⟩
  rw [up2_ne (by omega)]
end FR
section AD
variable {N m : Nat} {F : Nat → Nat → Int32} {L : Nat → Nat → Option Nat} {T : Nat → Nat} {P : Nat → Nat}
theorem X2_addT {kd w : Nat} (d : q_D m F L T P) (h3 : P 3 < 4) (k1 : 1 ≤ kd) (k5 : kd ≤ 5) (hm : m ≤ 4000) : ∃ G L' T', f_X2_addThing N (Hp m F L T) (some 9) (nI kd) (nI w) = some ((), Hp (m + 1) G L' T') ∧ q_D (m + 1) G L' T' (q_addT P kd w) ∧ q_Fr m F L T (m + 1) G L' T' ∧ G 2 = F 2 := by
  obtain ⟨d1, d2, d3, d4, d5, d6, d7, d8⟩ := d
  have hst : stN P < 2 ^ P 3 := stN_lt P
  have p7 : isPt 9 := Or.inr (Or.inl rfl)
  generalize hF1 : q_nf F (62 + m) (nI (P 3)) (nI w) = F1
  have f1 : ∀ q, q ≠ 62 + m → F1 q = F q := fun q hq => by rw [← hF1, q_nf_n hq]
  have f2 : F1 (62 + m) 0 = nI (P 3) := by rw [← hF1, q_nf_0]
  have f3 : F1 (62 + m) 1 = nI w := by rw [← hF1, q_nf_1]
  generalize hT1 : up T (62 + m) (clsOf kd) = T1
  have t1 : ∀ q, q ≠ 62 + m → T1 q = T q := fun q hq => by rw [← hT1, up_n hq]
  have t2 : T1 (62 + m) = clsOf kd := by rw [← hT1, up_s]
  generalize hL1 : up L 12 (va_up (L 12) (P 3) (some (62 + m))) = L1
  have l1 : ∀ q, q ≠ 12 → L1 q = L q := fun q hq => by rw [← hL1, up_n hq]
  have l2 : L1 12 (P 3) = some (62 + m) := by rw [← hL1, up_s, va_up_s]
  have l3 : ∀ j, j ≠ P 3 → L1 12 j = L 12 j := fun j hj => by rw [← hL1, up_s, va_up_n hj]
  have ok : okThing (Hp (m + 1) F1 L T1) (some (62 + m)) = true := okTh (Or.inr ⟨62 + m, rfl, by omega, by omega, by rw [t2]; exact clsTh kd⟩)
  have gu : oU (Hp (m + 1) F1 L T1) (some 12) 5 (nI (P 3)) (some (62 + m)) = some (Hp (m + 1) F1 L1 T1) := by
    have := gUn_P (m := m + 1) (F := F1) (L := L) (T := T1) (v := some (62 + m)) p7 h3
    rw [← hL1]
    exact this
  have md : f_X2_made N (Hp m F L T) (nI kd) (nI (P 3)) (nI w) = some (some (62 + m), Hp (m + 1) F1 L T1) := by rw [← hF1, ← hT1]; exact X2_made k1 k5 hm
  have c1 : (0 + 1 ≤ 1 ∧ 0 + 2 ≤ 2) = True := eq_true ⟨by omega, by omega⟩
  have e4 : (nI (P 3) < 4) = True := eq_true (nI_lt (b := 4) (by omega) (by omega))
  have g4 : F1 9 4 = nI (P 3) := by rw [f1 9 (by omega)]; exact d4
  have g6 : F1 9 6 = nI (stN P) := by rw [f1 9 (by omega)]; exact d6
  generalize hG : up2 (up2 F1 9 6 (nI (stN (q_addT P kd w)))) 9 4 (nI (P 3 + 1)) = G
  have gn : ∀ q, q ≠ 9 → G q = F1 q := fun q hq => by rw [← hG, up2_ne hq, up2_ne hq]
  have g74 : G 9 4 = nI (P 3 + 1) := by rw [← hG, up2_s]
  have g76 : G 9 6 = nI (stN (q_addT P kd w)) := by rw [← hG, up2_o (by decide), up2_s]
  have g7k : ∀ k, k ≠ 4 → k ≠ 6 → G 9 k = F 9 k := fun k a b => by rw [← hG, up2_o a, up2_o b, f1 9 (by omega)]
  refine ⟨G, L1, T1, ?_, ?_, ?_, by rw [gn 2 (by decide), f1 2 (by omega)]⟩
  · rw [stN_addT h3] at hG
    by_cases hk : kd = 4
    · subst hk
      rw [if_pos rfl] at hG
      have eo : nI (stN P) ||| (1 : Int32) <<< (nI (P 3) &&& 31) = nI (stN P + 2 ^ P 3) := by
        rw [shl1 (by omega), fa_or, Nat.or_comm]
        have := Nat.two_pow_add_eq_or_of_lt hst 1
        rw [Nat.mul_one] at this
        rw [← this, Nat.add_comm]
      have e6 : ∀ v, up2 F1 9 6 v 9 4 = nI (P 3) := fun v => by rw [up2_o (by decide)]; exact g4
      have ek : nI 4 = 4 := rfl
      rw [ek] at md
      simp only [f_X2_addThing, f_X2_addThing_0, f_X2_addThing_47, d4, e4, c1, ek, md, ok, gu, g4, g6, eo, e6, nI_1, hG, if_true, gI_0, gI_2, gI_4, gI_9, gI_15, gI_21, gI_49, gP_0, gP_2, gP_4, gP_9, gP_15, gP_21, gP_49, gR_0, gR_2, gR_4, gR_9, gR_15, gR_21, gR_49, gL_53, gL_54, oPz_0, oPz_1, Option.bind_some, c10, c01, cm1, c00, if_true, if_false, ne_eq, not_true_eq_false, not_false_eq_true]
    · rw [if_neg hk, Nat.add_zero, ← g6, up2_id rfl] at hG
      have ek : ¬ nI kd = 4 := fun q => hk ((nI_eq (b := 4) (by omega) (by omega)).mp q)
      simp only [f_X2_addThing, f_X2_addThing_0, f_X2_addThing_47, d4, e4, c1, ek, md, ok, gu, g4, nI_1, hG, if_true, gI_0, gI_2, gI_4, gI_9, gI_15, gI_21, gI_49, gP_0, gP_2, gP_4, gP_9, gP_15, gP_21, gP_49, gR_0, gR_2, gR_4, gR_9, gR_15, gR_21, gR_49, gL_53, gL_54, oPz_0, oPz_1, Option.bind_some, c10, c01, cm1, c00, if_true, if_false, ne_eq, not_true_eq_false, not_false_eq_true]
  · unfold q_D
    rw [q_aT3, q_aTn (j := 0) (by omega) (by omega) (by omega), q_aTn (j := 1) (by omega) (by omega) (by omega), q_aTn (j := 2) (by omega) (by omega) (by omega), q_aTn (j := 4) (by omega) (by omega) (by omega), g74, g76, g7k 1 (by decide) (by decide), g7k 2 (by decide) (by decide), g7k 3 (by decide) (by decide), g7k 5 (by decide) (by decide)]
    refine ⟨d1, d2, d3, rfl, d5, rfl, fun i hi => ?_, fun j hj => ?_⟩
    · rw [q_aT3] at hi
      by_cases e : i = P 3
      · subst e
        refine ⟨62 + m, l2, by omega, by omega, by rw [q_aTk]; exact t2, by rw [gn _ (by omega)]; exact f2, by rw [gn _ (by omega), q_aTw]; exact f3⟩
      · obtain ⟨t, q1, q2, q3, q4, q5, q6⟩ := d7 i (by omega)
        refine ⟨t, by rw [show 7 + 1 = 8 from rfl, l3 i e]; exact q1, q2, by omega, by rw [t1 t (by omega), q_aTn (by omega) (by omega) (by omega)]; exact q4, by rw [gn t (by omega), f1 t (by omega)]; exact q5, by rw [gn t (by omega), f1 t (by omega), q_aTn (by omega) (by omega) (by omega)]; exact q6⟩
    · rw [gn 13 (by decide), f1 13 (by omega), q_aTn (by omega) (by omega) (by omega)]
      exact d8 j hj
  · refine ⟨by omega, fun q a b c e => by rw [gn q b, f1 q (by omega)], by rw [gn 2 (by decide), f1 2 (by omega)], l1, fun q e => t1 q (by omega), fun h i hi => ?_⟩
    by_cases e : i = P 3
    · right
      rw [e]
      exact ⟨62 + m, l2, by omega, by omega, by rw [t2]; exact clsTh kd⟩
    · rw [l3 i e]
      rcases h i hi with h | ⟨t, q1, q2, q3, q4⟩
      · exact Or.inl h
      · exact Or.inr ⟨t, q1, q2, by omega, by rw [t1 t (by omega)]; exact q4⟩
theorem X2_addD {s : Nat} (d : q_D m F L T P) (h3 : P 3 ≤ 4) (h4 : P 4 < 12) : ∃ G, f_X2_addDay N (Hp m F L T) (some 9) (nI s) = some ((), Hp m G L T) ∧ q_D m G L T (q_addD P s) ∧ q_Fr m F L T m G L T ∧ G 2 = F 2 := by
  obtain ⟨d1, d2, d3, d4, d5, d6, d7, d8⟩ := d
  have e5 : up2 F 13 (P 4) (nI s) 9 5 = nI (P 4) := by simp (disch := omega) only [up2_ne, up2_o, up2_s]; exact d5
  have e : (nI (P 4) < 24) = True := eq_true (nI_lt (b := 24) (by omega) (by omega))
  generalize hG : up2 (up2 F 13 (P 4) (nI s)) 9 5 (nI (P 4 + 1)) = G
  have gn : ∀ q, q ≠ 9 → q ≠ 13 → G q = F q := fun q a b => by rw [← hG, up2_ne a, up2_ne b]
  have g75 : G 9 5 = nI (P 4 + 1) := by rw [← hG, up2_s]
  have g7k : ∀ k, k ≠ 5 → G 9 k = F 9 k := fun k a => by rw [← hG, up2_o a, up2_ne (by decide)]
  have g9 : G 13 (P 4) = nI s := by rw [← hG, up2_ne (by decide), up2_s]
  have g9k : ∀ k, k ≠ P 4 → G 13 k = F 13 k := fun k a => by rw [← hG, up2_ne (by decide), up2_o a]
  refine ⟨G, ?_, ?_, ?_, gn 2 (by decide) (by decide)⟩
  · simp only [f_X2_addDay, f_X2_addDay_0, d5, e, (gN_13 (show P 4 < 26 by omega)).2, e5, nI_1, hG, gI_0, gI_2, gI_4, gI_9, gI_15, gI_21, gI_49, gP_0, gP_2, gP_4, gP_9, gP_15, gP_21, gP_49, gR_0, gR_2, gR_4, gR_9, gR_15, gR_21, gR_49, gL_53, gL_54, oPz_0, oPz_1, Option.bind_some, c10, c01, cm1, c00, if_true, if_false, ne_eq, not_true_eq_false, not_false_eq_true]
  · unfold q_D
    rw [q_aD4, q_aDn (j := 0) (by omega) (by omega), q_aDn (j := 1) (by omega) (by omega), q_aDn (j := 2) (by omega) (by omega), q_aDn (j := 3) (by omega) (by omega), g75, g7k 1 (by decide), g7k 2 (by decide), g7k 3 (by decide), g7k 4 (by decide), g7k 6 (by decide), stN_congr (P := P) (q_aDn (by omega) (by omega)) (fun t ht => q_aDn (by omega) (by omega))]
    refine ⟨d1, d2, d3, d4, rfl, d6, fun i hi => ?_, fun j hj => ?_⟩
    · rw [q_aDn (by omega) (by omega)] at hi
      obtain ⟨t, q1, q2, q3, q4, q5, q6⟩ := d7 i hi
      exact ⟨t, q1, q2, q3, by rw [q_aDn (by omega) (by omega)]; exact q4, by rw [gn t (by omega) (by omega)]; exact q5, by rw [gn t (by omega) (by omega), q_aDn (by omega) (by omega)]; exact q6⟩
    · by_cases e : j = P 4
      · rw [e, q_aDs, g9]
      · rw [q_aDn (by omega) (by omega), g9k j e]
        exact d8 j (by omega)
  · exact ⟨Nat.le_refl _, fun q a b c _ => gn q b c, by rw [gn 2 (by decide) (by decide)], fun _ _ => rfl, fun _ _ => rfl, fun h => h⟩
end AD
