/-! PORT, the draft: a thing more, a day more -/
theorem Hp_new {m c : Nat} {F : Nat → Nat → Int32} {L : Nat → Nat → Option Nat} {T : Nat → Nat} : Hp m F L T ++ [.inr (c, [.int 0, .int 0])] = Hp (m + 1) (up F (62 + m) (fun _ => 0)) L (up T (62 + m) c) := by
  unfold Hp
  rw [show 62 + (m + 1) = (62 + m) + 1 by omega, List.range_succ, List.map_append]
  congr 1
  · apply List.map_congr_left
    intro k hk
    have := List.mem_range.mp hk
    rw [up_n (by omega), up_n (by omega)]
  · rw [List.map_singleton, up_s, up_s, cG_t (by omega)]
section TH
variable {N m : Nat} {F : Nat → Nat → Int32} {L : Nat → Nat → Option Nat} {T : Nat → Nat}
theorem oPT_H {k j : Nat} {x : Int32} (h : 62 ≤ k) (h2 : k < 62 + m) (ht : isTh (T k) = true) (hj : j < 2) : oPT (Hp m F L T) (some k) j (.int x) = some (Hp m (up2 F k j x) L T) := by
  unfold oPT
  rw [gT_th h h2, Option.bind_some, if_pos ht]
  refine oP_H h2 (cG_t h _ _ _) (by simpa using hj) ?_
  rw [cG_t h]
  match j, hj with
  | 0, _ => simp [upd]
  | 1, _ => simp [upd]
theorem oOb_H {k : Nat} (h : 62 ≤ k) (h2 : k < 62 + m) : oOb (Hp m F L T) (some k) = some () := by
  unfold oOb
  rw [gT_th h h2]
  rfl
theorem X7_in {k : Nat} {a b : Int32} (h : 62 ≤ k) (h2 : k < 62 + m) (ht : isTh (T k) = true) : f_X7_init N (Hp m F L T) (some k) a b = some ((), Hp m (up2 (up2 F k 0 a) k 1 b) L T) := by
  simp only [f_X7_init, f_X7_init_0, oOb_H h h2, oPT_H h h2 ht (show 0 < 2 by decide), oPT_H h h2 ht (show 1 < 2 by decide), Option.bind_some]
theorem clsTh : ∀ k, isTh (clsOf k) = true := by
  intro k
  unfold clsOf
  repeat' split
  all_goals rfl
/-- a new thing's fields -/
def q_nf (F : Nat → Nat → Int32) (k : Nat) (a b : Int32) : Nat → Nat → Int32 := up2 (up2 (up F k (fun _ => 0)) k 0 a) k 1 b
theorem q_nf_0 {k : Nat} {a b : Int32} : q_nf F k a b k 0 = a := by
  unfold q_nf
  rw [up2_o (by decide), up2_s]
theorem q_nf_1 {k : Nat} {a b : Int32} : q_nf F k a b k 1 = b := by
  unfold q_nf
  rw [up2_s]
theorem q_nf_n {k q : Nat} {a b : Int32} (h : q ≠ k) : q_nf F k a b q = F q := by
  unfold q_nf
  rw [up2_ne h, up2_ne h, up_n h]
theorem X2_made {kd : Nat} {a b : Int32} (h1 : 1 ≤ kd) (h5 : kd ≤ 5) (hm : m ≤ 4000) : f_X2_made N (Hp m F L T) (nI kd) a b = some (some (62 + m), Hp (m + 1) (q_nf F (62 + m) a b) L (up T (62 + m) (clsOf kd))) := by
  have hl : (Hp m F L T).length = 62 + m := Hp_len m F L T
  have hl2 : (62 + m < 1000000) = True := eq_true (by omega)
  have i1 : 62 ≤ 62 + m := by omega
  have i2 : 62 + m < 62 + (m + 1) := by omega
  have c1 : (0 + 1 ≤ 1 ∧ 0 + 2 ≤ 2) = True := eq_true ⟨by omega, by omega⟩
  have c2 : (0 + 1 + 0 ≤ 1 ∧ 0 + 2 + 0 ≤ 2) = True := eq_true ⟨by omega, by omega⟩
  have th : ∀ c, isTh c = true → isTh (up T (62 + m) c (62 + m)) = true := fun c hc => by rw [up_s]; exact hc
  rcases (show kd = 1 ∨ kd = 2 ∨ kd = 3 ∨ kd = 4 ∨ kd = 5 by omega) with rfl | rfl | rfl | rfl | rfl
  · have e2 : ¬ nI 1 = 2 := by decide
    have e3 : ¬ nI 1 = 3 := by decide
    have e4 : ¬ nI 1 = 4 := by decide
    have e5 : ¬ nI 1 = 5 := by decide
    simp only [f_X2_made, f_X2_made_0, f_X4_init, f_X4_init_0, e2, e3, e4, e5, hl, hl2, c1, c2, Hp_new, oOb_H i1 i2, X7_in i1 i2 (th 4 rfl), if_true, if_false, Option.bind_some]
    rfl
  · have e2 : nI 2 = 2 := rfl
    simp only [f_X2_made, f_X2_made_0, f_X1_init, f_X1_init_0, f_X4_init, f_X4_init_0, e2, hl, hl2, c1, c2, Hp_new, oOb_H i1 i2, X7_in i1 i2 (th 1 rfl), if_true, if_false, Option.bind_some]
    rfl
  · have e2 : ¬ nI 3 = 2 := by decide
    have e3 : nI 3 = 3 := rfl
    have e4 : ¬ (3 : Int32) = 2 := by decide
    simp only [f_X2_made, f_X2_made_0, f_X9_init, f_X9_init_0, f_X4_init, f_X4_init_0, e3, e4, hl, hl2, c1, c2, Hp_new, oOb_H i1 i2, X7_in i1 i2 (th 8 rfl), if_true, if_false, Option.bind_some]
    rfl
  · have e3 : nI 4 = 4 := rfl
    have e4 : ¬ (4 : Int32) = 2 := by decide
    have e5 : ¬ (4 : Int32) = 3 := by decide
    simp only [f_X2_made, f_X2_made_0, f_X5_init, f_X5_init_0, e3, e4, e5, hl, hl2, c1, c2, Hp_new, oOb_H i1 i2, X7_in i1 i2 (th 5 rfl), if_true, if_false, Option.bind_some]
    rfl
  · have e3 : nI 5 = 5 := rfl
    have e4 : ¬ (5 : Int32) = 2 := by decide
    have e5 : ¬ (5 : Int32) = 3 := by decide
    have e6 : ¬ (5 : Int32) = 4 := by decide
    simp only [f_X2_made, f_X2_made_0, f_X8_init, f_X8_init_0, f_X5_init, f_X5_init_0, e3, e4, e5, e6, hl, hl2, c1, c2, Hp_new, oOb_H i1 i2, X7_in i1 i2 (th 7 rfl), if_true, if_false, Option.bind_some]
    rfl
end TH
/-- the draft holds P (its things are not made yet) -/
def q_D (F : Nat → Nat → Int32) (P : Nat → Nat) : Prop :=
  F 9 1 = nI (P 0) ∧ F 9 2 = nI (P 1) ∧ F 9 3 = nI (P 2) ∧ F 9 4 = nI (P 3) ∧ F 9 5 = nI (P 4) ∧ F 9 6 = nI (stN P) ∧ (∀ i, i < P 3 → F 10 i = nI (P (5 + 2 * i)) ∧ F 11 i = nI (P (6 + 2 * i))) ∧ ∀ j, j < P 4 → F 13 j = nI (P (13 + j))
theorem q_D.mv {F G : Nat → Nat → Int32} {P : Nat → Nat} (h : q_D F P) (e : ∀ q, q ≠ 2 → G q = F q) : q_D G P := by
  unfold q_D
  rw [e 9 (by decide), e 13 (by decide), e 10 (by decide), e 11 (by decide)]
  exact h
def q_addT (P : Nat → Nat) (kd w : Nat) : Nat → Nat := fun j => if j = 3 then P 3 + 1 else if j = 5 + 2 * P 3 then kd else if j = 6 + 2 * P 3 then w else P j
def q_addD (P : Nat → Nat) (s : Nat) : Nat → Nat := fun j => if j = 4 then P 4 + 1 else if j = 13 + P 4 then s else P j
section QA
variable {P : Nat → Nat} {kd w s : Nat}
theorem q_aT3 : q_addT P kd w 3 = P 3 + 1 := if_pos rfl
theorem q_aTk : q_addT P kd w (5 + 2 * P 3) = kd := by
  unfold q_addT
  rw [if_neg (by omega), if_pos rfl]
theorem q_aTw : q_addT P kd w (6 + 2 * P 3) = w := by
  unfold q_addT
  rw [if_neg (by omega), if_neg (by omega), if_pos rfl]
theorem q_aTn {j : Nat} (h1 : j ≠ 3) (h2 : j ≠ 5 + 2 * P 3) (h3 : j ≠ 6 + 2 * P 3) : q_addT P kd w j = P j := by
  unfold q_addT
  rw [if_neg h1, if_neg h2, if_neg h3]
theorem q_aD4 : q_addD P s 4 = P 4 + 1 := if_pos rfl
theorem q_aDs : q_addD P s (13 + P 4) = s := by
  unfold q_addD
  rw [if_neg (by omega), if_pos rfl]
theorem q_aDn {j : Nat} (h1 : j ≠ 4) (h2 : j ≠ 13 + P 4) : q_addD P s j = P j := by
  unfold q_addD
  rw [if_neg h1, if_neg h2]
/-- what a port that is being read keeps to -/
def q_W (P : Nat → Nat) : Prop := P 0 ≤ 3 ∧ P 1 ≤ 1 ∧ 2 ≤ P 2 ∧ P 2 ≤ 200 ∧ P 3 ≤ 4 ∧ P 4 ≤ 12 ∧ (∀ i, i < P 3 → 1 ≤ P (5 + 2 * i) ∧ P (5 + 2 * i) ≤ 5 ∧ P (6 + 2 * i) ≤ 7) ∧ ∀ j, j < P 4 → P (13 + j) < 2 ^ P 3
theorem q_W.pv (h : q_W P) : PV P := by
  obtain ⟨h0, h1, h2, h3, h4, h5, h6, h7⟩ := h
  exact ⟨h0, h1, h3, h4, by omega, fun q => by omega, by omega, h6, h7⟩
theorem q_W.addT (h : q_W P) (h3 : P 3 < 4) (h4 : P 4 = 0) (k1 : 1 ≤ kd) (k5 : kd ≤ 5) (hw : w ≤ 7) : q_W (q_addT P kd w) := by
  obtain ⟨a0, a1, a2, a3, a4, a5, a6, a7⟩ := h
  unfold q_W
  rw [q_aT3, q_aTn (j := 0) (by omega) (by omega) (by omega), q_aTn (j := 1) (by omega) (by omega) (by omega), q_aTn (j := 2) (by omega) (by omega) (by omega), q_aTn (j := 4) (by omega) (by omega) (by omega)]
  refine ⟨a0, a1, a2, a3, by omega, a5, fun i hi => ?_, fun j hj => by omega⟩
  by_cases e : i = P 3
  · rw [e, q_aTk, q_aTw]
    exact ⟨k1, k5, hw⟩
  · rw [q_aTn (by omega) (by omega) (by omega), q_aTn (by omega) (by omega) (by omega)]
    exact a6 i (by omega)
theorem q_W.addD (h : q_W P) (h4 : P 4 < 12) (hs : s < 2 ^ P 3) : q_W (q_addD P s) := by
  obtain ⟨a0, a1, a2, a3, a4, a5, a6, a7⟩ := h
  unfold q_W
  rw [q_aD4, q_aDn (j := 0) (by omega) (by omega), q_aDn (j := 1) (by omega) (by omega), q_aDn (j := 2) (by omega) (by omega), q_aDn (j := 3) (by omega) (by omega)]
  refine ⟨a0, a1, a2, a3, a4, by omega, fun i hi => ?_, fun j hj => ?_⟩
  · rw [q_aDn (by omega) (by omega), q_aDn (by omega) (by omega)]
    exact a6 i hi
  · by_cases e : j = P 4
    · rw [e, q_aDs]; exact hs
    · rw [q_aDn (by omega) (by omega)]
      exact a7 j (by omega)
theorem stN_addT (h3 : P 3 < 4) : stN (q_addT P kd w) = stN P + if kd = 4 then 2 ^ P 3 else 0 := by
  unfold stN
  rw [q_aT3, sumN, q_aTk]
  congr 1
  exact sumN_congr (fun k hk => by rw [q_aTn (by omega) (by omega) (by omega)])
end QA
/-- what reading may change -/
def q_Ok (m : Nat) (L : Nat → Nat → Option Nat) (T : Nat → Nat) : Prop := ∀ i, i < 4 → L 12 i = none ∨ ∃ t, L 12 i = some t ∧ 62 ≤ t ∧ t < 62 + m ∧ isTh (T t) = true
def q_Fr (F G : Nat → Nat → Int32) : Prop := (∀ q, q ≠ 2 → q ≠ 9 → (q < 10 ∨ 13 < q) → G q = F q) ∧ G 2 1 = F 2 1
section FR
variable {F G H : Nat → Nat → Int32}
theorem q_Fr.refl : q_Fr F F := ⟨fun _ _ _ _ => rfl, rfl⟩
theorem q_Fr.trans (h : q_Fr F G) (k : q_Fr G H) : q_Fr F H := ⟨fun q a b c => (k.1 q a b c).trans (h.1 q a b c), k.2.trans h.2⟩
theorem q_C2.fr (h : q_C2 F G) : q_Fr F G := ⟨fun q a _ _ => h.1 q a, h.2⟩
theorem q_Fr.cb {n : Nat} {B : Nat → Nat} (h : q_Fr F G) (cb : q_CB n B F) : q_CB n B G := by
  obtain ⟨c1, c2, c3⟩ := cb
  exact ⟨c1, by rw [h.2]; exact c2, fun i hi => by rw [h.1 3 (by decide) (by decide) (by decide)]; exact c3 i hi⟩
theorem q_Fr.d {k : Nat} {v : Int32} (hk : k = 9 ∨ 10 ≤ k ∧ k ≤ 13) {j : Nat} : q_Fr F (up2 F k j v) := by
  refine ⟨fun q a b c => up2_ne (by omega), ?_⟩
  rw [up2_ne (by omega)]
end FR
section AD
variable {N m : Nat} {F : Nat → Nat → Int32} {L : Nat → Nat → Option Nat} {T : Nat → Nat} {P : Nat → Nat}
theorem X2_addT {kd w : Nat} (d : q_D F P) (h3 : P 3 < 4) (k5 : kd ≤ 5) : ∃ G, f_X2_addThing N (Hp m F L T) (some 9) (nI kd) (nI w) = some ((), Hp m G L T) ∧ q_D G (q_addT P kd w) ∧ q_Fr F G ∧ G 2 = F 2 := by
  obtain ⟨d1, d2, d3, d4, d5, d6, d7, d8⟩ := d
  have hst : stN P < 2 ^ P 3 := stN_lt P
  have p7 : isPt 9 := Or.inr (Or.inl rfl)
  have go : ∀ (F : Nat → Nat → Int32) (x : Int32), oS (Hp m F L T) (some 10) 0 (nI (P 3)) x = some (Hp m (up2 F 10 (P 3) x) L T) := fun F x => (gOn_P (m := m) (F := F) (L := L) (T := T) p7 h3).2 x
  have gw : ∀ (F : Nat → Nat → Int32) (x : Int32), oS (Hp m F L T) (some 11) 0 (nI (P 3)) x = some (Hp m (up2 F 11 (P 3) x) L T) := fun F x => (gWn_P (m := m) (F := F) (L := L) (T := T) p7 h3).2 x
  have d4' : up2 F 10 (P 3) (nI kd) 9 4 = nI (P 3) := by rw [up2_ne (by decide)]; exact d4
  generalize hF1 : up2 (up2 F 10 (P 3) (nI kd)) 11 (P 3) (nI w) = F1
  have f1 : ∀ q, q ≠ 10 → q ≠ 11 → F1 q = F q := fun q a b => by rw [← hF1, up2_ne b, up2_ne a]
  have s1 : F1 10 (P 3) = nI kd := by rw [← hF1, up2_ne (by decide), up2_s]
  have s2 : F1 11 (P 3) = nI w := by rw [← hF1, up2_s]
  have s3 : ∀ j, j ≠ P 3 → F1 10 j = F 10 j := fun j hj => by rw [← hF1, up2_ne (by decide), up2_o hj]
  have s4 : ∀ j, j ≠ P 3 → F1 11 j = F 11 j := fun j hj => by rw [← hF1, up2_o hj, up2_ne (by decide)]
  have e4 : (nI (P 3) < 4) = True := eq_true (nI_lt (b := 4) (by omega) (by omega))
  have g4 : F1 9 4 = nI (P 3) := by rw [f1 9 (by decide) (by decide)]; exact d4
  have g6 : F1 9 6 = nI (stN P) := by rw [f1 9 (by decide) (by decide)]; exact d6
  generalize hG : up2 (up2 F1 9 6 (nI (stN (q_addT P kd w)))) 9 4 (nI (P 3 + 1)) = G
  have gn : ∀ q, q ≠ 9 → G q = F1 q := fun q hq => by rw [← hG, up2_ne hq, up2_ne hq]
  have g74 : G 9 4 = nI (P 3 + 1) := by rw [← hG, up2_s]
  have g76 : G 9 6 = nI (stN (q_addT P kd w)) := by rw [← hG, up2_o (by decide), up2_s]
  have g7k : ∀ k, k ≠ 4 → k ≠ 6 → G 9 k = F 9 k := fun k a b => by rw [← hG, up2_o a, up2_o b, f1 9 (by decide) (by decide)]
  refine ⟨G, ?_, ?_, ⟨fun q a b c => by rw [gn q b, f1 q (by omega) (by omega)], by rw [gn 2 (by decide), f1 2 (by decide) (by decide)]⟩, by rw [gn 2 (by decide), f1 2 (by decide) (by decide)]⟩
  · rw [stN_addT h3] at hG
    by_cases hk : kd = 4
    · rw [if_pos hk] at hG
      have eo : nI (stN P) ||| (1 : Int32) <<< (nI (P 3) &&& 31) = nI (stN P + 2 ^ P 3) := by
        rw [shl1 (by omega), fa_or, Nat.or_comm]
        have := Nat.two_pow_add_eq_or_of_lt hst 1
        rw [Nat.mul_one] at this
        rw [← this, Nat.add_comm]
      have e6 : ∀ v, up2 F1 9 6 v 9 4 = nI (P 3) := fun v => by rw [up2_o (by decide)]; exact g4
      have ek : (nI kd = (4 : Int32)) = True := eq_true (by rw [hk]; rfl)
      simp only [f_X2_addThing, f_X2_addThing_0, f_X2_addThing_49, d4, e4, go, d4', gw, hF1, ek, g4, g6, eo, e6, nI_1, hG, gI_0, gI_2, gI_4, gI_9, gI_15, gI_21, gI_49, gP_0, gP_2, gP_4, gP_9, gP_15, gP_21, gP_49, gR_0, gR_2, gR_4, gR_9, gR_15, gR_21, gR_49, gL_53, gL_54, oPz_0, oPz_1, Option.bind_some, c10, c01, cm1, c00, if_true, if_false, ne_eq, not_true_eq_false, not_false_eq_true]
    · rw [if_neg hk, Nat.add_zero, ← g6, up2_id rfl] at hG
      have ek : ¬ nI kd = 4 := fun q => hk ((nI_eq (b := 4) (by omega) (by omega)).mp q)
      simp only [f_X2_addThing, f_X2_addThing_0, f_X2_addThing_49, d4, e4, go, d4', gw, hF1, ek, g4, nI_1, hG, gI_0, gI_2, gI_4, gI_9, gI_15, gI_21, gI_49, gP_0, gP_2, gP_4, gP_9, gP_15, gP_21, gP_49, gR_0, gR_2, gR_4, gR_9, gR_15, gR_21, gR_49, gL_53, gL_54, oPz_0, oPz_1, Option.bind_some, c10, c01, cm1, c00, if_true, if_false, ne_eq, not_true_eq_false, not_false_eq_true]
  · unfold q_D
    rw [q_aT3, q_aTn (j := 0) (by omega) (by omega) (by omega), q_aTn (j := 1) (by omega) (by omega) (by omega), q_aTn (j := 2) (by omega) (by omega) (by omega), q_aTn (j := 4) (by omega) (by omega) (by omega), g74, g76, g7k 1 (by decide) (by decide), g7k 2 (by decide) (by decide), g7k 3 (by decide) (by decide), g7k 5 (by decide) (by decide), gn 10 (by decide), gn 11 (by decide), gn 13 (by decide)]
    refine ⟨d1, d2, d3, rfl, d5, rfl, fun i hi => ?_, fun j hj => ?_⟩
    · by_cases e : i = P 3
      · rw [e, q_aTk, q_aTw]
        exact ⟨s1, s2⟩
      · obtain ⟨q1, q2⟩ := d7 i (by omega)
        rw [s3 i e, s4 i e, q_aTn (by omega) (by omega) (by omega), q_aTn (by omega) (by omega) (by omega)]
        exact ⟨q1, q2⟩
    · rw [f1 13 (by decide) (by decide), q_aTn (by omega) (by omega) (by omega)]
      exact d8 j hj
theorem X2_addD {s : Nat} (d : q_D F P) (h3 : P 3 ≤ 4) (h4 : P 4 < 12) : ∃ G, f_X2_addDay N (Hp m F L T) (some 9) (nI s) = some ((), Hp m G L T) ∧ q_D G (q_addD P s) ∧ q_Fr F G ∧ G 2 = F 2 := by
  obtain ⟨d1, d2, d3, d4, d5, d6, d7, d8⟩ := d
  have e5 : up2 F 13 (P 4) (nI s) 9 5 = nI (P 4) := by simp (disch := omega) only [up2_ne, up2_o, up2_s]; exact d5
  have e : (nI (P 4) < 24) = True := eq_true (nI_lt (b := 24) (by omega) (by omega))
  generalize hG : up2 (up2 F 13 (P 4) (nI s)) 9 5 (nI (P 4 + 1)) = G
  have gn : ∀ q, q ≠ 9 → q ≠ 13 → G q = F q := fun q a b => by rw [← hG, up2_ne a, up2_ne b]
  have g75 : G 9 5 = nI (P 4 + 1) := by rw [← hG, up2_s]
  have g7k : ∀ k, k ≠ 5 → G 9 k = F 9 k := fun k a => by rw [← hG, up2_o a, up2_ne (by decide)]
  have g9 : G 13 (P 4) = nI s := by rw [← hG, up2_ne (by decide), up2_s]
  have g9k : ∀ k, k ≠ P 4 → G 13 k = F 13 k := fun k a => by rw [← hG, up2_ne (by decide), up2_o a]
  refine ⟨G, ?_, ?_, ⟨fun q a b c => gn q b (by omega), by rw [gn 2 (by decide) (by decide)]⟩, gn 2 (by decide) (by decide)⟩
  · simp only [f_X2_addDay, f_X2_addDay_0, d5, e, (gN_13 (show P 4 < 26 by omega)).2, e5, nI_1, hG, gI_0, gI_2, gI_4, gI_9, gI_15, gI_21, gI_49, gP_0, gP_2, gP_4, gP_9, gP_15, gP_21, gP_49, gR_0, gR_2, gR_4, gR_9, gR_15, gR_21, gR_49, gL_53, gL_54, oPz_0, oPz_1, Option.bind_some, c10, c01, cm1, c00, if_true, if_false, ne_eq, not_true_eq_false, not_false_eq_true]
  · unfold q_D
    rw [q_aD4, q_aDn (j := 0) (by omega) (by omega), q_aDn (j := 1) (by omega) (by omega), q_aDn (j := 2) (by omega) (by omega), q_aDn (j := 3) (by omega) (by omega), g75, g7k 1 (by decide), g7k 2 (by decide), g7k 3 (by decide), g7k 4 (by decide), g7k 6 (by decide), stN_congr (P := P) (q_aDn (by omega) (by omega)) (fun t ht => q_aDn (by omega) (by omega)), gn 10 (by decide) (by decide), gn 11 (by decide) (by decide)]
    refine ⟨d1, d2, d3, d4, rfl, d6, fun i hi => ?_, fun j hj => ?_⟩
    · rw [q_aDn (by omega) (by omega), q_aDn (by omega) (by omega)]
      exact d7 i hi
    · by_cases e : j = P 4
      · rw [e, q_aDs, g9]
      · rw [q_aDn (by omega) (by omega), g9k j e]
        exact d8 j (by omega)
end AD
/-- the draft's things are made -/
theorem X2_mk_l {N m0 : Nat} {P : Nat → Nat} (hm : m0 ≤ 3500) (h3 : P 3 ≤ 4) (hk : ∀ i, i < P 3 → 1 ≤ P (5 + 2 * i) ∧ P (5 + 2 * i) ≤ 5 ∧ P (6 + 2 * i) ≤ 7) {F : Nat → Nat → Int32} {L : Nat → Nat → Option Nat} {T : Nat → Nat} (d : q_D F P) : ∀ (n i : Nat) (G : Nat → Nat → Int32) (L1 : Nat → Nat → Option Nat) (T1 : Nat → Nat), (∀ q, q < 62 + m0 → G q = F q) → (∀ q, q ≠ 12 → L1 q = L q) → (∀ q, q < 62 + m0 → T1 q = T q) → (∀ j, j < i → ∃ t, L1 12 j = some t ∧ 62 ≤ t ∧ t < 62 + (m0 + i) ∧ T1 t = clsOf (P (5 + 2 * j)) ∧ G t 0 = nI j ∧ G t 1 = nI (P (6 + 2 * j))) → (∀ j, i ≤ j → L1 12 j = L 12 j) → i ≤ P 3 → P 3 < i + n → ∃ G' L' T', f_X2_makeThings_2 N n (Hp (m0 + i) G L1 T1) i (2 * i) (some 9) (nI i) = some ((), Hp (m0 + P 3) G' L' T') ∧ (∀ q, q < 62 + m0 → G' q = F q) ∧ (∀ q, q ≠ 12 → L' q = L q) ∧ (∀ q, q < 62 + m0 → T' q = T q) ∧ PT (m0 + P 3) G' L' T' 9 P ∧ ∀ j, P 3 ≤ j → L' 12 j = L 12 j := by
  obtain ⟨d1, d2, d3, d4, d5, d6, d7, d8⟩ := d
  have p7 : isPt 9 := Or.inr (Or.inl rfl)
  intro n
  induction n with
  | zero => intro i G L1 T1 _ _ _ _ _ h1 h2; omega
  | succ n ih =>
    intro i G L1 T1 e1 e2 e3 e4 e5 h1 h2
    rw [f_X2_makeThings_2]
    have g4 : G 9 4 = nI (P 3) := by rw [e1 9 (by omega)]; exact d4
    by_cases hi : i = P 3
    · subst hi
      have c1 : (P 3 ≤ 4 ∧ 2 * P 3 ≤ 8) = True := eq_true ⟨by omega, by omega⟩
      have ei : (nI (P 3) ≤ nI (P 3)) = True := eq_true (Int32.le_refl _)
      refine ⟨G, L1, T1, ?_, e1, e2, e3, e4, e5⟩
      simp only [g4, c1, ei, gI_0, gI_2, gI_4, gI_9, gI_15, gI_21, gI_49, gP_0, gP_2, gP_4, gP_9, gP_15, gP_21, gP_49, gR_0, gR_2, gR_4, gR_9, gR_15, gR_21, gR_49, gL_53, gL_54, oPz_0, oPz_1, Option.bind_some, c10, c01, cm1, c00, if_true, if_false, ne_eq, not_true_eq_false, not_false_eq_true]
    · have hi' : i < P 3 := by omega
      have hi4 : i < 4 := by omega
      obtain ⟨k1, k2, k3⟩ := hk i hi'
      obtain ⟨o1, o2⟩ := d7 i hi'
      have ei : (nI (P 3) ≤ nI i) = False := eq_false (nI_ge hi' (by omega))
      have c1 : (i + 1 ≤ 4 ∧ 2 * i + 2 ≤ 8) = True := eq_true ⟨by omega, by omega⟩
      have go : oA (Hp (m0 + i) G L1 T1) (some 10) 0 (nI i) = some (nI (P (5 + 2 * i))) := by
        rw [← o1, ← e1 10 (by omega)]
        exact (gOn_P (m := m0 + i) (F := G) (L := L1) (T := T1) p7 hi4).1
      have gw : oA (Hp (m0 + i) G L1 T1) (some 11) 0 (nI i) = some (nI (P (6 + 2 * i))) := by
        rw [← o2, ← e1 11 (by omega)]
        exact (gWn_P (m := m0 + i) (F := G) (L := L1) (T := T1) p7 hi4).1
      generalize hF1 : q_nf G (62 + (m0 + i)) (nI i) (nI (P (6 + 2 * i))) = F1
      have f1 : ∀ q, q ≠ 62 + (m0 + i) → F1 q = G q := fun q hq => by rw [← hF1, q_nf_n hq]
      have f2 : F1 (62 + (m0 + i)) 0 = nI i := by rw [← hF1, q_nf_0]
      have f3 : F1 (62 + (m0 + i)) 1 = nI (P (6 + 2 * i)) := by rw [← hF1, q_nf_1]
      generalize hT2 : up T1 (62 + (m0 + i)) (clsOf (P (5 + 2 * i))) = T2
      have t1 : ∀ q, q ≠ 62 + (m0 + i) → T2 q = T1 q := fun q hq => by rw [← hT2, up_n hq]
      have t2 : T2 (62 + (m0 + i)) = clsOf (P (5 + 2 * i)) := by rw [← hT2, up_s]
      generalize hL2 : up L1 12 (va_up (L1 12) i (some (62 + (m0 + i)))) = L2
      have l1 : ∀ q, q ≠ 12 → L2 q = L1 q := fun q hq => by rw [← hL2, up_n hq]
      have l2 : L2 12 i = some (62 + (m0 + i)) := by rw [← hL2, up_s, va_up_s]
      have l3 : ∀ j, j ≠ i → L2 12 j = L1 12 j := fun j hj => by rw [← hL2, up_s, va_up_n hj]
      have ok : okThing (Hp (m0 + i + 1) F1 L1 T2) (some (62 + (m0 + i))) = true := okTh (Or.inr ⟨62 + (m0 + i), rfl, by omega, by omega, by rw [t2]; exact clsTh _⟩)
      have gu : oU (Hp (m0 + i + 1) F1 L1 T2) (some 12) 5 (nI i) (some (62 + (m0 + i))) = some (Hp (m0 + i + 1) F1 L2 T2) := by
        have := gUn_P (m := m0 + i + 1) (F := F1) (L := L1) (T := T2) (v := some (62 + (m0 + i))) p7 hi4
        rw [← hL2]
        exact this
      have md : f_X2_made N (Hp (m0 + i) G L1 T1) (nI (P (5 + 2 * i))) (nI i) (nI (P (6 + 2 * i))) = some (some (62 + (m0 + i)), Hp (m0 + i + 1) F1 L1 T2) := by rw [← hF1, ← hT2]; exact X2_made k1 k2 (by omega)
      obtain ⟨G', L', T', r1, r2⟩ := ih (i + 1) F1 L2 T2 (fun q hq => by rw [f1 q (by omega)]; exact e1 q hq) (fun q hq => by rw [l1 q hq]; exact e2 q hq) (fun q hq => by rw [t1 q (by omega)]; exact e3 q hq) (fun j hj => by
        by_cases h : j = i
        · subst h
          exact ⟨62 + (m0 + j), l2, by omega, by omega, t2, f2, f3⟩
        · obtain ⟨t, q1, q2, q3, q4, q5, q6⟩ := e4 j (by omega)
          exact ⟨t, by rw [l3 j h]; exact q1, q2, by omega, by rw [t1 t (by omega)]; exact q4, by rw [f1 t (by omega)]; exact q5, by rw [f1 t (by omega)]; exact q6⟩) (fun j hj => by rw [l3 j (by omega)]; exact e5 j (by omega)) (by omega) (by omega)
      refine ⟨G', L', T', ?_, r2⟩
      rw [show 2 * (i + 1) = 2 * i + 2 by omega, show m0 + (i + 1) = m0 + i + 1 by omega] at r1
      simp only [g4, ei, go, gw, c1, md, ok, gu, nI_1, gI_0, gI_2, gI_4, gI_9, gI_15, gI_21, gI_49, gP_0, gP_2, gP_4, gP_9, gP_15, gP_21, gP_49, gR_0, gR_2, gR_4, gR_9, gR_15, gR_21, gR_49, gL_53, gL_54, oPz_0, oPz_1, Option.bind_some, c10, c01, cm1, c00, if_true, if_false, ne_eq, not_true_eq_false, not_false_eq_true]
      exact r1
theorem X2_mk {N m : Nat} {P : Nat → Nat} {F : Nat → Nat → Int32} {L : Nat → Nat → Option Nat} {T : Nat → Nat} (hN : 5000 ≤ N) (hm : m ≤ 3500) (qw : q_W P) (d : q_D F P) : ∃ G L' T', f_X2_makeThings N (Hp m F L T) (some 9) = some ((), Hp (m + P 3) G L' T') ∧ (∀ q, q < 62 + m → G q = F q) ∧ (∀ q, q ≠ 12 → L' q = L q) ∧ (∀ q, q < 62 + m → T' q = T q) ∧ PT (m + P 3) G L' T' 9 P ∧ (q_Ok m L T → q_Ok (m + P 3) L' T') := by
  have h3 := qw.2.2.2.2.1
  have hk := qw.2.2.2.2.2.2.1
  obtain ⟨G, L', T', r1, r2, r3, r4, r5, r6⟩ := X2_mk_l (N := N) (L := L) (T := T) hm h3 hk d N 0 F L T (fun _ _ => rfl) (fun _ _ => rfl) (fun _ _ => rfl) (fun j hj => by omega) (fun _ _ => rfl) (Nat.zero_le _) (by omega)
  refine ⟨G, L', T', r1, r2, r3, r4, r5, fun h i hi => ?_⟩
  by_cases e : i < P 3
  · obtain ⟨t, q1, q2, q3, q4, -⟩ := r5 i e
    exact Or.inr ⟨t, q1, q2, q3, by rw [q4]; exact clsTh _⟩
  · rw [r6 i (by omega)]
    rcases h i hi with h | ⟨t, q1, q2, q3, q4⟩
    · exact Or.inl h
    · exact Or.inr ⟨t, q1, q2, by omega, by rw [r4 t (by omega)]; exact q4⟩
