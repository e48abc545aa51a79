def isPt (p : Nat) : Prop := p = 4 ∨ p = 9 ∨ p = 39 ∨ p = 44
section PTs
variable {N m : Nat} {F : Nat → Nat → Int32} {L : Nat → Nat → Option Nat} {T : Nat → Nat}
theorem gI_P {p : Nat} (hp : isPt p) : oI (Hp m F L T) (some p) 2 0 = some (F p 0) ∧ oI (Hp m F L T) (some p) 2 1 = some (F p 1) ∧ oI (Hp m F L T) (some p) 2 2 = some (F p 2) ∧ oI (Hp m F L T) (some p) 2 3 = some (F p 3) ∧ oI (Hp m F L T) (some p) 2 4 = some (F p 4) ∧ oI (Hp m F L T) (some p) 2 5 = some (F p 5) ∧ oI (Hp m F L T) (some p) 2 6 = some (F p 6) := by
  rcases hp with rfl | rfl | rfl | rfl
  · exact gI_4
  · exact gI_9
  · exact gI_39
  · exact gI_44
theorem gP_P {p : Nat} {v : Int32} (hp : isPt p) : oP (Hp m F L T) (some p) 2 0 (.int v) = some (Hp m (up2 F p 0 v) L T) ∧ oP (Hp m F L T) (some p) 2 1 (.int v) = some (Hp m (up2 F p 1 v) L T) ∧ oP (Hp m F L T) (some p) 2 2 (.int v) = some (Hp m (up2 F p 2 v) L T) ∧ oP (Hp m F L T) (some p) 2 3 (.int v) = some (Hp m (up2 F p 3 v) L T) ∧ oP (Hp m F L T) (some p) 2 4 (.int v) = some (Hp m (up2 F p 4 v) L T) ∧ oP (Hp m F L T) (some p) 2 5 (.int v) = some (Hp m (up2 F p 5 v) L T) ∧ oP (Hp m F L T) (some p) 2 6 (.int v) = some (Hp m (up2 F p 6 v) L T) := by
  rcases hp with rfl | rfl | rfl | rfl
  · exact gP_4
  · exact gP_9
  · exact gP_39
  · exact gP_44
theorem gR_P {p : Nat} (hp : isPt p) : oR (Hp m F L T) (some p) 2 7 = some (some (p + 1)) ∧ oR (Hp m F L T) (some p) 2 8 = some (some (p + 2)) ∧ oR (Hp m F L T) (some p) 2 9 = some (some (p + 3)) ∧ oR (Hp m F L T) (some p) 2 10 = some (some (p + 4)) ∧ oC (Hp m F L T) (some p) = some 2 ∧ oCk (Hp m F L T) (some p) 2 = some () := by
  rcases hp with rfl | rfl | rfl | rfl
  · exact gR_4
  · exact gR_9
  · exact gR_39
  · exact gR_44
theorem gQ_P {p : Nat} {i : Int32} {v : Option Nat} (hp : isPt p) : oQ (Hp m F L T) (some (p + 3)) 5 i = (if i < 0 ∨ 4 ≤ i.toNatClampNeg then none else some (L (p + 3) i.toNatClampNeg)) ∧ oU (Hp m F L T) (some (p + 3)) 5 i v = (if i < 0 ∨ 4 ≤ i.toNatClampNeg then none else some (Hp m F (up L (p + 3) (va_up (L (p + 3)) i.toNatClampNeg v)) T)) := by
  rcases hp with rfl | rfl | rfl | rfl
  · exact gQ_7
  · exact gQ_12
  · exact gQ_42
  · exact gQ_47
theorem gQn_P {p i : Nat} (hp : isPt p) (h : i < 4) : oQ (Hp m F L T) (some (p + 3)) 5 (nI i) = some (L (p + 3) i) := by
  rw [(gQ_P (v := none) hp).1, if_neg (nI_in (N := 4) h (by decide)), nI_clamp (by omega)]
theorem gUn_P {p i : Nat} {v : Option Nat} (hp : isPt p) (h : i < 4) : oU (Hp m F L T) (some (p + 3)) 5 (nI i) v = some (Hp m F (up L (p + 3) (va_up (L (p + 3)) i v)) T) := by
  rw [(gQ_P hp).2, if_neg (nI_in (N := 4) h (by decide)), nI_clamp (by omega)]
theorem gO_P {p : Nat} {i x : Int32} (hp : isPt p) : oA (Hp m F L T) (some (p + 1)) 0 i = (if i < 0 ∨ 4 ≤ i.toNatClampNeg then none else some (F (p + 1) i.toNatClampNeg)) ∧ oS (Hp m F L T) (some (p + 1)) 0 i x = (if i < 0 ∨ 4 ≤ i.toNatClampNeg then none else some (Hp m (up2 F (p + 1) i.toNatClampNeg x) L T)) ∧ oN (Hp m F L T) (some (p + 1)) 0 = some (Int32.ofNat 4) := by
  rcases hp with rfl | rfl | rfl | rfl
  · exact gA_5
  · exact gA_10
  · exact gA_40
  · exact gA_45
theorem gW_P {p : Nat} {i x : Int32} (hp : isPt p) : oA (Hp m F L T) (some (p + 2)) 0 i = (if i < 0 ∨ 4 ≤ i.toNatClampNeg then none else some (F (p + 2) i.toNatClampNeg)) ∧ oS (Hp m F L T) (some (p + 2)) 0 i x = (if i < 0 ∨ 4 ≤ i.toNatClampNeg then none else some (Hp m (up2 F (p + 2) i.toNatClampNeg x) L T)) ∧ oN (Hp m F L T) (some (p + 2)) 0 = some (Int32.ofNat 4) := by
  rcases hp with rfl | rfl | rfl | rfl
  · exact gA_6
  · exact gA_11
  · exact gA_41
  · exact gA_46
theorem gOn_P {p i : Nat} (hp : isPt p) (h : i < 4) : oA (Hp m F L T) (some (p + 1)) 0 (nI i) = some (F (p + 1) i) ∧ ∀ x, oS (Hp m F L T) (some (p + 1)) 0 (nI i) x = some (Hp m (up2 F (p + 1) i x) L T) := by
  refine ⟨?_, fun x => ?_⟩
  · rw [(gO_P (x := 0) hp).1, if_neg (nI_in (N := 4) h (by decide)), nI_clamp (by omega)]
  · rw [(gO_P hp).2.1, if_neg (nI_in (N := 4) h (by decide)), nI_clamp (by omega)]
theorem gWn_P {p i : Nat} (hp : isPt p) (h : i < 4) : oA (Hp m F L T) (some (p + 2)) 0 (nI i) = some (F (p + 2) i) ∧ ∀ x, oS (Hp m F L T) (some (p + 2)) 0 (nI i) x = some (Hp m (up2 F (p + 2) i x) L T) := by
  refine ⟨?_, fun x => ?_⟩
  · rw [(gW_P (x := 0) hp).1, if_neg (nI_in (N := 4) h (by decide)), nI_clamp (by omega)]
  · rw [(gW_P hp).2.1, if_neg (nI_in (N := 4) h (by decide)), nI_clamp (by omega)]
theorem cG_P {p : Nat} (hp : isPt p) (f : Nat → Int32) (g : Nat → Option Nat) (t : Nat) : cG (p + 4) f g t = .inl (0, 26, .inl f) := by
  rcases hp with rfl | rfl | rfl | rfl <;> rfl
theorem oN_P {p : Nat} (hp : isPt p) : oN (Hp m F L T) (some (p + 4)) 0 = some (nI 26) := by
  have : p + 4 < 62 + m := by rcases hp with rfl | rfl | rfl | rfl <;> omega
  exact oN_H this (cG_P hp _ _ _)
theorem oK_P {p q : Nat} (hp : isPt p) (hq : isPt q) : oK (Hp m F L T) (some (q + 4)) 0 (some (p + 4)) 0 (nI 26) = some (Hp m (up F (p + 4) (va_cpy (F (q + 4)) (F (p + 4)) 0 0 26)) L T) := by
  have h1 : p + 4 < 62 + m := by rcases hp with rfl | rfl | rfl | rfl <;> omega
  have h2 : q + 4 < 62 + m := by rcases hq with rfl | rfl | rfl | rfl <;> omega
  have e1 : (0 : Int32).toNatClampNeg = 0 := rfl
  have e3 : (nI 26).toNatClampNeg = 26 := nI_clamp (by omega)
  simp only [oK, Hp_get h1, Hp_get h2, cG_P hp, cG_P hq, e1, e3]
  rw [if_pos ⟨trivial, trivial, by decide, by decide, by decide, by decide, by decide⟩, Hp_setF (cG_P hp _ _ _).symm]
theorem okTh {x : Option Nat} (h : x = none ∨ ∃ t, x = some t ∧ 62 ≤ t ∧ t < 62 + m ∧ isTh (T t) = true) : okThing (Hp m F L T) x = true := by
  rcases h with rfl | ⟨t, rfl, h1, h2, h3⟩
  · rfl
  · simp only [okThing, gT_th h1 h2, h3, Bool.or_true]
end PTs
theorem va_up_s {α : Type} (f : Nat → α) (k : Nat) (v : α) : va_up f k v k = v := by simp [va_up]
theorem va_up_n {α : Type} {f : Nat → α} {k j : Nat} {v : α} (h : j ≠ k) : va_up f k v j = f j := by simp [va_up, h]
theorem isPt.ne {p q : Nat} (hp : isPt p) (hq : isPt q) (h : p ≠ q) : ∀ a b, a ≤ 4 → b ≤ 4 → q + a ≠ p + b := by
  rcases hp with rfl | rfl | rfl | rfl <;> rcases hq with rfl | rfl | rfl | rfl <;> omega
theorem X2_bec_l {N m p q : Nat} {F : Nat → Nat → Int32} {L : Nat → Nat → Option Nat} {T : Nat → Nat} (hp : isPt p) (hq : isPt q) (hpq : p ≠ q) (ok : ∀ i, i < 4 → L (q + 3) i = none ∨ ∃ t, L (q + 3) i = some t ∧ 62 ≤ t ∧ t < 62 + m ∧ isTh (T t) = true) : ∀ (n i : Nat) (F1 : Nat → Nat → Int32) (L1 : Nat → Nat → Option Nat), (∀ r, r ≠ p + 1 → r ≠ p + 2 → F1 r = F r) → (∀ j, j < i → F1 (p + 2) j = F (q + 2) j) → (∀ r, r ≠ p + 3 → L1 r = L r) → (∀ j, j < i → L1 (p + 3) j = L (q + 3) j) → i ≤ 4 → 4 < i + n → ∃ F2 L2, f_X2_become_58 N n (Hp m F1 L1 T) (some p) (some q) (nI i) = some ((), Hp m F2 L2 T) ∧ (∀ r, r ≠ p + 1 → r ≠ p + 2 → r ≠ p + 4 → F2 r = F r) ∧ (∀ j, j < 4 → F2 (p + 2) j = F (q + 2) j) ∧ (∀ j, j < 26 → F2 (p + 4) j = F (q + 4) j) ∧ (∀ r, r ≠ p + 3 → L2 r = L r) ∧ ∀ j, j < 4 → L2 (p + 3) j = L (q + 3) j := by
  have ne := hp.ne hq hpq
  intro n
  induction n with
  | zero => intro i F1 L1 _ _ _ _ h1 h2; omega
  | succ n ih =>
    intro i F1 L1 d1 d2 e1 e2 h1 h2
    rw [f_X2_become_58]
    by_cases hi : i = 4
    · subst hi
      rw [if_pos (by decide)]
      refine ⟨up F1 (p + 4) (va_cpy (F1 (q + 4)) (F1 (p + 4)) 0 0 26), L1, ?_, fun r r1 r2 r3 => ?_, fun j hj => ?_, fun j hj => ?_, e1, e2⟩
      · simp only [gR_P hp, gR_P hq, oN_P hp, oK_P hp hq, Option.bind_some]
      · rw [up_n2 r3, d1 r r1 r2]
      · rw [up_n2 (by omega), d2 j hj]
      · rw [up_s, pk_cpy_in (by omega) (by omega), d1 _ (ne _ _ (by omega) (by omega)) (ne _ _ (by omega) (by omega))]
        congr 1
        omega
    · have hk : ¬ (4 : Int32) ≤ nI i := nI_ge (a := i) (b := 4) (by omega) (by omega)
      have hi4 : i < 4 := by omega
      rw [if_neg hk]
      have eq1 : L1 (q + 3) i = L (q + 3) i := by rw [e1 _ (ne _ _ (by omega) (by omega))]
      have eqw : up2 F1 (p + 1) i (F1 (q + 1) i) (q + 2) i = F (q + 2) i := by rw [up2_ne (ne _ _ (by omega) (by omega)), d1 _ (ne _ _ (by omega) (by omega)) (ne _ _ (by omega) (by omega))]
      obtain ⟨F2, L2, r1, r2⟩ := ih (i + 1) (up2 (up2 F1 (p + 1) i (F1 (q + 1) i)) (p + 2) i (F (q + 2) i)) (up L1 (p + 3) (va_up (L1 (p + 3)) i (L (q + 3) i))) (fun r ha hb => by rw [up2_ne hb, up2_ne ha]; exact d1 r ha hb) (fun j hj => by
        by_cases h : j = i
        · rw [h, up2_s]
        · rw [up2_o h, up2_ne (by omega)]; exact d2 j (by omega)) (fun r hr => by rw [up_n2 hr]; exact e1 r hr) (fun j hj => by
        rw [up_s]
        by_cases h : j = i
        · rw [h, va_up_s]
        · rw [va_up_n h]; exact e2 j (by omega)) (by omega) (by omega)
      refine ⟨F2, L2, ?_, r2⟩
      simp only [gR_P hp, gR_P hq, (gOn_P hq hi4).1, (gOn_P hp hi4).2, (gWn_P hq hi4).1, (gWn_P hp hi4).2, eqw, gQn_P hq hi4, eq1, okTh (ok i hi4), gUn_P hp hi4, nI_1, Option.bind_some, if_true]
      exact r1
theorem X2_bec {N m p q : Nat} {F : Nat → Nat → Int32} {L : Nat → Nat → Option Nat} {T : Nat → Nat} (hN : 5000 ≤ N) (hp : isPt p) (hq : isPt q) (hpq : p ≠ q) (ok : ∀ i, i < 4 → L (q + 3) i = none ∨ ∃ t, L (q + 3) i = some t ∧ 62 ≤ t ∧ t < 62 + m ∧ isTh (T t) = true) (h0 : F q 0 = 0 ∨ F q 0 = 1) : ∃ F2 L2, f_X2_become N (Hp m F L T) (some p) (some q) = some ((), Hp m F2 L2 T) ∧ (∀ k, k < 7 → F2 p k = F q k) ∧ ((∀ j, j < 26 → F2 (p + 4) j = F (q + 4) j) ∧ ∀ j, j < 4 → F2 (p + 2) j = F (q + 2) j) ∧ (∀ r, (r < p ∨ p + 4 < r) → F2 r = F r) ∧ (∀ r, r ≠ p + 3 → L2 r = L r) ∧ ∀ j, j < 4 → L2 (p + 3) j = L (q + 3) j := by
  have ne := hp.ne hq hpq
  have hqp : q ≠ p := fun h => hpq h.symm
  generalize hG : up2 (up2 (up2 (up2 (up2 (up2 (up2 F p 0 (F q 0)) p 1 (F q 1)) p 2 (F q 2)) p 3 (F q 3)) p 4 (F q 4)) p 5 (F q 5)) p 6 (F q 6) = G
  have gk : ∀ k, k < 7 → G p k = F q k := by
    intro k hk
    rw [← hG]
    rcases (show k = 0 ∨ k = 1 ∨ k = 2 ∨ k = 3 ∨ k = 4 ∨ k = 5 ∨ k = 6 by omega) with rfl | rfl | rfl | rfl | rfl | rfl | rfl <;> simp (disch := omega) only [up2_ne, up2_o, up2_s]
  have gr : ∀ r, r ≠ p → G r = F r := fun r hr => by
    rw [← hG]
    simp (disch := omega) only [up2_ne, up2_o, up2_s]
  obtain ⟨F2, L2, r1, r2, r3, r4, r5⟩ := X2_bec_l (N := N) (F := G) hp hq hpq ok N 0 G L (fun _ _ _ => rfl) (fun j hj => by omega) (fun _ _ => rfl) (fun j hj => by omega) (by omega) (by omega)
  refine ⟨F2, L2, ?_, fun k hk => ?_, ⟨fun j hj => ?_, fun j hj => ?_⟩, fun r h1 => ?_, r5⟩
  · have ez : ∀ (A : hP) , oPz A (some p) 2 0 (F q 0) = oP A (some p) 2 0 (.int (F q 0)) := by
      intro A
      unfold oPz
      rw [if_pos h0]
    have r1' : f_X2_become_58 N N (Hp m G L T) (some p) (some q) 0 = some ((), Hp m F2 L2 T) := r1
    have w1 : up2 F p 0 (F q 0) q 1 = F q 1 := by rw [up2_ne hqp]
    have w2 : up2 (up2 F p 0 (F q 0)) p 1 (F q 1) q 2 = F q 2 := by rw [up2_ne hqp, up2_ne hqp]
    have w3 : up2 (up2 (up2 F p 0 (F q 0)) p 1 (F q 1)) p 2 (F q 2) q 3 = F q 3 := by rw [up2_ne hqp, up2_ne hqp, up2_ne hqp]
    have w4 : up2 (up2 (up2 (up2 F p 0 (F q 0)) p 1 (F q 1)) p 2 (F q 2)) p 3 (F q 3) q 4 = F q 4 := by rw [up2_ne hqp, up2_ne hqp, up2_ne hqp, up2_ne hqp]
    have w5 : up2 (up2 (up2 (up2 (up2 F p 0 (F q 0)) p 1 (F q 1)) p 2 (F q 2)) p 3 (F q 3)) p 4 (F q 4) q 5 = F q 5 := by rw [up2_ne hqp, up2_ne hqp, up2_ne hqp, up2_ne hqp, up2_ne hqp]
    have w6 : up2 (up2 (up2 (up2 (up2 (up2 F p 0 (F q 0)) p 1 (F q 1)) p 2 (F q 2)) p 3 (F q 3)) p 4 (F q 4)) p 5 (F q 5) q 6 = F q 6 := by rw [up2_ne hqp, up2_ne hqp, up2_ne hqp, up2_ne hqp, up2_ne hqp, up2_ne hqp]
    simp only [f_X2_become, f_X2_become_0, gI_P hq, ez, gP_P hp, w1, w2, w3, w4, w5, w6, Option.bind_some, hG, r1']
  · rw [r2 p (by omega) (by omega) (by omega), gk k hk]
  · rw [r4 j hj, gr _ (ne _ 0 (by omega) (by omega))]
  · rw [r3 j hj, gr _ (ne _ 0 (by omega) (by omega))]
  · rw [r2 r (by omega) (by omega) (by omega), gr r (by omega)]
theorem PC.mv {m p q : Nat} {F F2 : Nat → Nat → Int32} {L L2 : Nat → Nat → Option Nat} {T : Nat → Nat} {P : Nat → Nat} (h : PC m F L T q P) (pv : PV P) (e1 : ∀ k, k < 7 → F2 p k = F q k) (e2 : (∀ j, j < 26 → F2 (p + 4) j = F (q + 4) j) ∧ ∀ j, j < 4 → F2 (p + 2) j = F (q + 2) j) (e3 : ∀ j, j < 4 → L2 (p + 3) j = L (q + 3) j) (e4 : ∀ t, 62 ≤ t → F2 t = F t) : PC m F2 L2 T p P := by
  obtain ⟨h0, h1, h2, h3, h4, h5, h6, h7, h8, h9⟩ := h
  have v3 : P 3 ≤ 4 := pv.2.2.2.1
  have v4 : P 4 ≤ 24 := pv.2.2.2.2.1
  unfold PC
  rw [e1 0 (by omega), e1 1 (by omega), e1 2 (by omega), e1 3 (by omega), e1 4 (by omega), e1 5 (by omega), e1 6 (by omega)]
  refine ⟨h0, h1, h2, h3, h4, h5, h6, fun i hi => ?_, fun j hj => by rw [e2.1 j (by omega)]; exact h8 j hj, fun i hi => by rw [e2.2 i (by omega)]; exact h9 i hi⟩
  obtain ⟨t, q1, q2, q3, q4, q5, q6⟩ := h7 i hi
  exact ⟨t, by rw [e3 i (by omega)]; exact q1, q2, q3, q4, by rw [e4 t q2]; exact q5, by rw [e4 t q2]; exact q6⟩
theorem PM.mv {P : Nat → Nat} {π ρ : Nat → Int32} (h : PM π P) (pv : PV P) (e : ∀ i, i < 39 → ρ i = π i) : PM ρ P := by
  have v3 : P 3 ≤ 4 := pv.2.2.2.1
  have v4 : P 4 ≤ 24 := pv.2.2.2.2.1
  refine ⟨fun i hi => by rw [e i (by omega)]; exact h.1 i hi, fun i hi => by rw [e _ (by omega), e _ (by omega)]; exact h.2.1 i hi, fun j hj => by rw [e _ (by omega)]; exact h.2.2 j hj⟩
theorem ix39 (r j : Nat) : (39 : Int32) * nI r + nI j = nI (39 * r + j) := by
  rw [show (39 : Int32) = nI 39 from rfl, pk_mul, nI_add]
theorem M_img_l {N m k : Nat} {F : Nat → Nat → Int32} {L : Nat → Nat → Option Nat} {T : Nat → Nat} (hk : k < 2) : ∀ (n i : Nat) (G : Nat → Nat → Int32), (∀ p, p ≠ 60 → G p = F p) → (∀ j, j < i → G 60 (39 * k + j) = F 53 j) → (∀ j, (j < 39 * k ∨ 39 * k + 39 ≤ j) → G 60 j = F 60 j) → i ≤ 39 → 39 < i + n → ∃ G', f_X12_image_30 N n (Hp m G L T) (some 49) (nI k) (nI i) = some (1, Hp m (up2 G' 59 k 1) L T) ∧ (∀ p, p ≠ 60 → G' p = F p) ∧ (∀ j, j < 39 → G' 60 (39 * k + j) = F 53 j) ∧ (∀ j, (j < 39 * k ∨ 39 * k + 39 ≤ j) → G' 60 j = F 60 j) := by
  intro n
  induction n with
  | zero => intro i G _ _ _ h1 h2; omega
  | succ n ih =>
    intro i G e1 e2 e3 h1 h2
    rw [f_X12_image_30]
    by_cases hi : i = 39
    · subst hi
      rw [if_pos (by decide)]
      refine ⟨G, ?_, e1, e2, e3⟩
      simp only [(gN_59 hk).2, or_true, gI_0, gI_2, gI_4, gI_9, gI_15, gI_21, gI_49, gP_0, gP_2, gP_4, gP_9, gP_15, gP_21, gP_49, gR_0, gR_2, gR_4, gR_9, gR_15, gR_21, gR_49, gL_53, gL_54, oPz_0, oPz_1, Option.bind_some, c10, c01, cm1, c00, if_true, if_false, ne_eq, not_true_eq_false, not_false_eq_true]
    · have hk' : ¬ (39 : Int32) ≤ nI i := nI_ge (a := i) (b := 39) (by omega) (by omega)
      rw [if_neg hk']
      obtain ⟨G', r1, r2⟩ := ih (i + 1) (up2 G 60 (39 * k + i) (F 53 i)) (fun p hp => by rw [up2_ne hp]; exact e1 p hp) (fun j hj => by
        by_cases h : j = i
        · rw [h, up2_s]
        · rw [up2_o (by omega)]; exact e2 j (by omega)) (fun j hj => by rw [up2_o (by omega)]; exact e3 j hj) (by omega) (by omega)
      refine ⟨G', ?_, r2⟩
      have e5 : G 53 i = F 53 i := by rw [e1 53 (by decide)]
      simp only [(gN_53 (show i < 39 by omega)).1, e5, ix39, (gN_60 (show 39 * k + i < 78 by omega)).2, nI_1, gI_0, gI_2, gI_4, gI_9, gI_15, gI_21, gI_49, gP_0, gP_2, gP_4, gP_9, gP_15, gP_21, gP_49, gR_0, gR_2, gR_4, gR_9, gR_15, gR_21, gR_49, gL_53, gL_54, oPz_0, oPz_1, Option.bind_some, c10, c01, cm1, c00, if_true, if_false, ne_eq, not_true_eq_false, not_false_eq_true]
      exact r1
theorem M_rst_l {N m k : Nat} {F : Nat → Nat → Int32} {L : Nat → Nat → Option Nat} {T : Nat → Nat} (hk : k < 2) : ∀ (n i : Nat) (G : Nat → Nat → Int32), (∀ p, p ≠ 53 → G p = F p) → (∀ j, j < i → G 53 j = F 60 (39 * k + j)) → i ≤ 39 → 39 < i + n → ∃ G', f_X12_restore_32 N n (Hp m G L T) (some 49) (nI k) (nI i) = some (1, Hp m G' L T) ∧ (∀ p, p ≠ 53 → G' p = F p) ∧ ∀ j, j < 39 → G' 53 j = F 60 (39 * k + j) := by
  intro n
  induction n with
  | zero => intro i G _ _ h1 h2; omega
  | succ n ih =>
    intro i G e1 e2 h1 h2
    rw [f_X12_restore_32]
    by_cases hi : i = 39
    · subst hi
      rw [if_pos (by decide)]
      exact ⟨G, rfl, e1, e2⟩
    · have hk' : ¬ (39 : Int32) ≤ nI i := nI_ge (a := i) (b := 39) (by omega) (by omega)
      rw [if_neg hk']
      obtain ⟨G', r1, r2⟩ := ih (i + 1) (up2 G 53 i (F 60 (39 * k + i))) (fun p hp => by rw [up2_ne hp]; exact e1 p hp) (fun j hj => by
        by_cases h : j = i
        · rw [h, up2_s]
        · rw [up2_o h]; exact e2 j (by omega)) (by omega) (by omega)
      refine ⟨G', ?_, r2⟩
      have e5 : G 60 (39 * k + i) = F 60 (39 * k + i) := by rw [e1 60 (by decide)]
      simp only [ix39, (gN_60 (show 39 * k + i < 78 by omega)).1, e5, (gN_53 (show i < 39 by omega)).2, nI_1, gI_0, gI_2, gI_4, gI_9, gI_15, gI_21, gI_49, gP_0, gP_2, gP_4, gP_9, gP_15, gP_21, gP_49, gR_0, gR_2, gR_4, gR_9, gR_15, gR_21, gR_49, gL_53, gL_54, oPz_0, oPz_1, Option.bind_some, c10, c01, cm1, c00, if_true, if_false, ne_eq, not_true_eq_false, not_false_eq_true]
      exact r1
theorem X11_isImg_y {N : Nat} {A : hP} {r : Nat} (h : r < 2) : f_X11_isImage N A (nI r) = some (1, A) := by
  have h1 : ¬ nI r < 0 := nI_pos (by omega)
  have h2 : ¬ (2 : Int32) ≤ nI r := nI_ge (a := r) (b := 2) h (by omega)
  simp [f_X11_isImage, f_X11_isImage_0, f_X11_isImage_13, f_X11_isImage_14, h1, h2]
theorem X11_isImg_n {N : Nat} {A : hP} {r : Int32} (h : r < 0 ∨ nI 2 ≤ r) : f_X11_isImage N A r = some (0, A) := by
  by_cases h1 : r < 0
  · simp [f_X11_isImage, f_X11_isImage_0, f_X11_isImage_13, f_X11_isImage_14, h1]
  · have h2 : (2 : Int32) ≤ r := by
      rcases h with h | h
      · exact absurd h h1
      · exact h
    simp [f_X11_isImage, f_X11_isImage_0, f_X11_isImage_13, f_X11_isImage_14, h1, h2]
theorem X12_in01n {N : Nat} {A : hP} {b : Int32} (h : b < 0 ∨ nI 2 ≤ b) : f_X12_in N A b.toInt64 (0 : Int64) (1 : Int64) = some (0, A) := X12_in_n (n := 2) h (by decide)
theorem X12_in01y {N : Nat} {A : hP} {k : Nat} (h : k < 2) : f_X12_in N A (nI k).toInt64 (0 : Int64) (1 : Int64) = some (1, A) := X12_in_y (n := 2) h (by decide)
theorem isPt_img {k : Nat} (h : k < 2) : isPt (39 + 5 * k) := by
  unfold isPt
  omega
theorem th01 {F : Nat → Nat → Int32} {m : Nat} {L : Nat → Nat → Option Nat} {T P : Nat → Nat} {p : Nat} (h : PC m F L T p P) : F p 0 = 0 ∨ F p 0 = 1 := by
  rw [h.1]
  split
  · exact Or.inl rfl
  · exact Or.inr rfl
theorem OkL.mv {m p q : Nat} {L L2 : Nat → Nat → Option Nat} {T : Nat → Nat} (h : OkL m L T) (hp : isPt p) (hq : isPt q) (e1 : ∀ r, r ≠ p + 3 → L2 r = L r) (e2 : ∀ j, j < 4 → L2 (p + 3) j = L (q + 3) j) : OkL m L2 T := by
  intro r hr i hi
  by_cases h1 : r = p + 3
  · rw [h1, e2 i hi]
    refine h (q + 3) ?_ i hi
    rcases hq with rfl | rfl | rfl | rfl <;> omega
  · rw [e1 r h1]
    exact h r hr i hi
theorem o_image (N : Nat) (hN : 5000 ≤ N) (m : Nat) (F : Nat → Nat → Int32) (L : Nat → Nat → Option Nat) (T : Nat → Nat) (hm : m ≤ 3000) (R : Rel m F L T) (a : Int32) : OpOk (fun A => f_X11_image N A (some 0) a) (fun A => f_X12_image N A (some 49) a) m F L T := by
  obtain ⟨P, pv, pm, pc, sr⟩ := R.2.2.1
  have v2 : P 2 ≤ 200 := pv.2.2.1
  have bad : (a < 0 ∨ nI 2 ≤ a) → OpOk (fun A => f_X11_image N A (some 0) a) (fun A => f_X12_image N A (some 49) a) m F L T := by
    intro h
    refine ⟨-1000001, m, F, L, T, up2 F 49 0 0, ?_, ?_, R.thr 0, by omega⟩
    · simp only [f_X11_image, f_X11_image_0, X11_isImg_n h, gI_0, gI_2, gI_4, gI_9, gI_15, gI_21, gI_49, gP_0, gP_2, gP_4, gP_9, gP_15, gP_21, gP_49, gR_0, gR_2, gR_4, gR_9, gR_15, gR_21, gR_49, gL_53, gL_54, oPz_0, oPz_1, Option.bind_some, c10, c01, cm1, c00, if_true, if_false, ne_eq, not_true_eq_false, not_false_eq_true]
    · simp only [f_X12_image, f_X12_image_0, X12_in01n h, gI_0, gI_2, gI_4, gI_9, gI_15, gI_21, gI_49, gP_0, gP_2, gP_4, gP_9, gP_15, gP_21, gP_49, gR_0, gR_2, gR_4, gR_9, gR_15, gR_21, gR_49, gL_53, gL_54, oPz_0, oPz_1, Option.bind_some, c10, c01, cm1, c00, if_true, if_false, ne_eq, not_true_eq_false, not_false_eq_true]
  rcases pk_ix a (n := 2) (by decide) with h | h | ⟨k, hk, rfl⟩
  · exact bad (Or.inl h)
  · exact bad (Or.inr h)
  clear bad
  have c0 := pc.1
  have m2 : up2 F 49 0 0 53 2 = nI (P 2) := by simp (disch := omega) only [up2_ne, up2_o, up2_s]; exact pm.1 2 (by omega)
  by_cases hp2 : P 2 = 0
  · rw [if_pos hp2] at c0
    refine ⟨-1000002, m, F, L, T, up2 F 49 0 0, ?_, ?_, R.thr 0, by omega⟩
    · simp only [f_X11_image, f_X11_image_0, X11_isImg_y hk, c0, gI_0, gI_2, gI_4, gI_9, gI_15, gI_21, gI_49, gP_0, gP_2, gP_4, gP_9, gP_15, gP_21, gP_49, gR_0, gR_2, gR_4, gR_9, gR_15, gR_21, gR_49, gL_53, gL_54, oPz_0, oPz_1, Option.bind_some, c10, c01, cm1, c00, if_true, if_false, ne_eq, not_true_eq_false, not_false_eq_true]
    · simp only [f_X12_image, f_X12_image_0, X12_in01y hk, M_there_n m2 hp2, gI_0, gI_2, gI_4, gI_9, gI_15, gI_21, gI_49, gP_0, gP_2, gP_4, gP_9, gP_15, gP_21, gP_49, gR_0, gR_2, gR_4, gR_9, gR_15, gR_21, gR_49, gL_53, gL_54, oPz_0, oPz_1, Option.bind_some, c10, c01, cm1, c00, if_true, if_false, ne_eq, not_true_eq_false, not_false_eq_true]
  rw [if_neg hp2] at c0
  have p4 : isPt 4 := Or.inl rfl
  obtain ⟨F1, L1, b1, b2, b3, b4, b5, b6⟩ := X2_bec (N := N) (m := m) (F := F) (L := L) (T := T) (p := 39 + 5 * k) (q := 4) hN (isPt_img hk) p4 (by omega) (fun i hi => R.2.2.2.1.1 7 (Or.inl rfl) i hi) (th01 pc)
  have b4' : ∀ r, r < 39 ∨ 48 < r → F1 r = F r := fun r hr => b4 r (by omega)
  obtain ⟨G, g1, g2, g3, g4⟩ := M_img_l (N := N) (m := m) (F := up2 F1 49 0 0) (L := L1) (T := T) hk N 0 (up2 F1 49 0 0) (fun _ _ => rfl) (fun j hj => by omega) (fun _ _ => rfl) (by omega) (by omega)
  have gF : ∀ p, p ≠ 60 → p ≠ 49 → G p = F1 p := fun p h1 h2 => by rw [g2 p h1, up2_ne h2]
  generalize hH : up2 G 59 k 1 = H
  have hHp : ∀ p, p ≠ 59 → H p = G p := fun p hp => by rw [← hH, up2_ne hp]
  have hH1 : H 59 k = 1 := by rw [← hH, up2_s]
  have hH2 : ∀ j, j ≠ k → H 59 j = F 59 j := fun j hj => by rw [← hH, up2_o hj, gF 59 (by decide) (by decide), b4' 59 (by omega)]
  have hp : ∀ p, p < 39 ∨ 48 < p → p ≠ 59 → p ≠ 60 → p ≠ 49 → H p = F p := fun p h1 h2 h3 h4 => by rw [hHp p h2, gF p h3 h4, b4' p h1]
  have hp1 : ∀ p, p ≠ 59 → p ≠ 60 → p ≠ 49 → H p = F1 p := fun p h2 h3 h4 => by rw [hHp p h2, gF p h3 h4]
  have hk41 : ∀ j, j ≠ 0 → H 49 j = F 49 j := fun j hj => by rw [hHp 49 (by decide), g2 49 (by decide), up2_o hj, b4' 49 (by omega)]
  refine ⟨1, m, F1, L1, T, H, ?_, ?_, ?_, by omega⟩
  · simp only [f_X11_image, f_X11_image_0, X11_isImg_y hk, c0, gN_14 hk, gR_P (isPt_img hk), b1, gI_0, gI_2, gI_4, gI_9, gI_15, gI_21, gI_49, gP_0, gP_2, gP_4, gP_9, gP_15, gP_21, gP_49, gR_0, gR_2, gR_4, gR_9, gR_15, gR_21, gR_49, gL_53, gL_54, oPz_0, oPz_1, Option.bind_some, c10, c01, cm1, c00, if_true, if_false, ne_eq, not_true_eq_false, not_false_eq_true]
  · have m2' : up2 F1 49 0 0 53 2 = nI (P 2) := by simp (disch := omega) only [up2_ne, up2_o, up2_s]; rw [b4' 53 (by omega)]; exact pm.1 2 (by omega)
    have g1' : f_X12_image_30 N N (Hp m (up2 F1 49 0 0) L1 T) (some 49) (nI k) 0 = some (1, Hp m (up2 G 59 k 1) L1 T) := g1
    simp only [f_X12_image, f_X12_image_0, X12_in01y hk, M_there_y m2' hp2 v2, g1', hH, gI_0, gI_2, gI_4, gI_9, gI_15, gI_21, gI_49, gP_0, gP_2, gP_4, gP_9, gP_15, gP_21, gP_49, gR_0, gR_2, gR_4, gR_9, gR_15, gR_21, gR_49, gL_53, gL_54, oPz_0, oPz_1, Option.bind_some, c10, c01, cm1, c00, if_true, if_false, ne_eq, not_true_eq_false, not_false_eq_true]
  · obtain ⟨r1, r2, r3, r4, r5, r6, r7⟩ := R
    refine ⟨r1.same (fun p h => hp p (by omega) (by omega) (by omega) (by omega)), r2.same (by rw [hp 2 (by omega) (by omega) (by omega) (by omega)]) (hk41 8 (by omega)) (hp 55 (by omega) (by omega) (by omega) (by omega)) (hp 3 (by omega) (by omega) (by omega) (by omega)), ?_, ⟨r4.1.mv (isPt_img hk) p4 b5 b6, fun j hj => ?_⟩, by rw [hp 0 (by omega) (by omega) (by omega) (by omega), hk41 9 (by omega)]; exact r5, by rw [hp 0 (by omega) (by omega) (by omega) (by omega), hk41 1 (by omega)]; exact r6, r7.same (by rw [hp 21 (by omega) (by omega) (by omega) (by omega)]) (hk41 30 (by omega)) (hp 22 (by omega) (by omega) (by omega) (by omega)) (hp 61 (by omega) (by omega) (by omega) (by omega))⟩
    · have l5 : L1 7 = L 7 := b5 7 (by omega)
      refine ⟨P, pv, by rw [hp 53 (by omega) (by omega) (by omega) (by omega)]; exact pm, ?_, sr.same (hp 15 (by omega) (by omega) (by omega) (by omega))⟩
      have := pc.same (G := H) (hp 4 (by omega) (by omega) (by omega) (by omega)) (fun t ht => hp t (by omega) (by omega) (by omega) (by omega)) (fun j _ => by rw [hp (4 + 4) (by omega) (by omega) (by omega) (by omega)]) (hp (4 + 2) (by omega) (by omega) (by omega) (by omega))
      obtain ⟨h0, h1, h2, h3, h4, h5, h6, h7, h8⟩ := this
      exact ⟨h0, h1, h2, h3, h4, h5, h6, fun i hi => by obtain ⟨t, q1, q2⟩ := h7 i hi; exact ⟨t, by rw [show 4 + 3 = 7 from rfl, l5]; exact q1, q2⟩, h8⟩
    · by_cases hjk : j = k
      · subst hjk
        right
        refine ⟨hH1, P, pv, hp2, pm.mv pv (fun i hi => ?_), pc.mv pv (fun i hi => by rw [hp1 _ (by omega) (by omega) (by omega)]; exact b2 i hi) ⟨fun i hi => by rw [hp1 _ (by omega) (by omega) (by omega)]; exact b3.1 i hi, fun i hi => by rw [hp1 _ (by omega) (by omega) (by omega)]; exact b3.2 i hi⟩ b6 (fun t ht => hp t (by omega) (by omega) (by omega) (by omega))⟩
        show H 60 (39 * j + i) = F 53 i
        rw [hHp 60 (by decide), g3 i hi, up2_ne (by decide), b4' 53 (by omega)]
      · rcases r4.2 j hj with ⟨x1, x2⟩ | ⟨x1, Q, x2, x3, x4, x5⟩
        · left
          exact ⟨by rw [hH2 j hjk]; exact x1, by rw [hp1 _ (by omega) (by omega) (by omega), b4 _ (by omega)]; exact x2⟩
        · right
          refine ⟨by rw [hH2 j hjk]; exact x1, Q, x2, x3, x4.mv x2 (fun i hi => ?_), ?_⟩
          · show H 60 (39 * j + i) = F 60 (39 * j + i)
            rw [hHp 60 (by decide), g4 _ (by omega), up2_ne (by decide), b4' 60 (by omega)]
          · refine x5.mv (q := 39 + 5 * j) x2 (fun i _ => by rw [hp1 _ (by omega) (by omega) (by omega), b4 _ (by omega)]) ⟨fun i _ => by rw [hp1 _ (by omega) (by omega) (by omega), b4 _ (by omega)], fun i _ => by rw [hp1 _ (by omega) (by omega) (by omega), b4 _ (by omega)]⟩ (fun i _ => by rw [b5 _ (by omega)]) (fun t ht => hp t (by omega) (by omega) (by omega) (by omega))
theorem o_restore (N : Nat) (hN : 5000 ≤ N) (m : Nat) (F : Nat → Nat → Int32) (L : Nat → Nat → Option Nat) (T : Nat → Nat) (hm : m ≤ 3000) (R : Rel m F L T) (a : Int32) : OpOk (fun A => f_X11_restore N A (some 0) a) (fun A => f_X12_restore N A (some 49) a) m F L T := by
  have bad : (a < 0 ∨ nI 2 ≤ a) → OpOk (fun A => f_X11_restore N A (some 0) a) (fun A => f_X12_restore N A (some 49) a) m F L T := by
    intro h
    refine ⟨-1000001, m, F, L, T, up2 F 49 0 0, ?_, ?_, R.thr 0, by omega⟩
    · simp only [f_X11_restore, f_X11_restore_0, X11_isImg_n h, gI_0, gI_2, gI_4, gI_9, gI_15, gI_21, gI_49, gP_0, gP_2, gP_4, gP_9, gP_15, gP_21, gP_49, gR_0, gR_2, gR_4, gR_9, gR_15, gR_21, gR_49, gL_53, gL_54, oPz_0, oPz_1, Option.bind_some, c10, c01, cm1, c00, if_true, if_false, ne_eq, not_true_eq_false, not_false_eq_true]
    · simp only [f_X12_restore, f_X12_restore_0, X12_in01n h, gI_0, gI_2, gI_4, gI_9, gI_15, gI_21, gI_49, gP_0, gP_2, gP_4, gP_9, gP_15, gP_21, gP_49, gR_0, gR_2, gR_4, gR_9, gR_15, gR_21, gR_49, gL_53, gL_54, oPz_0, oPz_1, Option.bind_some, c10, c01, cm1, c00, if_true, if_false, ne_eq, not_true_eq_false, not_false_eq_true]
  rcases pk_ix a (n := 2) (by decide) with h | h | ⟨k, hk, rfl⟩
  · exact bad (Or.inl h)
  · exact bad (Or.inr h)
  clear bad
  have pk := isPt_img hk
  rcases R.2.2.2.1.2 k hk with ⟨x1, x2⟩ | ⟨x1, P, pv, hp2, pm, pc⟩
  · refine ⟨-1000002, m, F, L, T, up2 F 49 0 0, ?_, ?_, R.thr 0, by omega⟩
    · simp only [f_X11_restore, f_X11_restore_0, X11_isImg_y hk, gN_14 hk, gI_P pk, x2, gI_0, gI_2, gI_4, gI_9, gI_15, gI_21, gI_49, gP_0, gP_2, gP_4, gP_9, gP_15, gP_21, gP_49, gR_0, gR_2, gR_4, gR_9, gR_15, gR_21, gR_49, gL_53, gL_54, oPz_0, oPz_1, Option.bind_some, c10, c01, cm1, c00, if_true, if_false, ne_eq, not_true_eq_false, not_false_eq_true]
    · have e : up2 F 49 0 0 59 k = 0 := by simp (disch := omega) only [up2_ne, up2_o, up2_s]; exact x1
      simp only [f_X12_restore, f_X12_restore_0, X12_in01y hk, (gN_59 hk).1, e, gI_0, gI_2, gI_4, gI_9, gI_15, gI_21, gI_49, gP_0, gP_2, gP_4, gP_9, gP_15, gP_21, gP_49, gR_0, gR_2, gR_4, gR_9, gR_15, gR_21, gR_49, gL_53, gL_54, oPz_0, oPz_1, Option.bind_some, c10, c01, cm1, c00, if_true, if_false, ne_eq, not_true_eq_false, not_false_eq_true]
  have c0 := pc.1
  rw [if_neg hp2] at c0
  have p4 : isPt 4 := Or.inl rfl
  obtain ⟨F1, L1, b1, b2, b3, b4, b5, b6⟩ := X2_bec (N := N) (m := m) (F := F) (L := L) (T := T) (p := 4) (q := 39 + 5 * k) hN p4 pk (by omega) (fun i hi => R.2.2.2.1.1 (39 + 5 * k + 3) (by omega) i hi) (th01 pc)
  have b4' : ∀ r, (r < 4 ∨ 8 < r) → F1 r = F r := fun r h1 => b4 r (by omega)
  obtain ⟨H, g1, g2, g3⟩ := M_rst_l (N := N) (m := m) (F := up2 (up2 F1 15 1 0) 49 0 0) (L := L1) (T := T) hk N 0 (up2 (up2 F1 15 1 0) 49 0 0) (fun _ _ => rfl) (fun j hj => by omega) (by omega) (by omega)
  have hp1 : ∀ p, p ≠ 53 → p ≠ 49 → p ≠ 15 → H p = F1 p := fun p h1 h2 h3 => by rw [g2 p h1, up2_ne h2, up2_ne h3]
  have hp : ∀ p, p ≠ 53 → p ≠ 49 → p ≠ 15 → (p < 4 ∨ 8 < p) → H p = F p := fun p h1 h2 h3 h4 => by rw [hp1 p h1 h2 h3, b4' p h4]
  have hk41 : ∀ j, j ≠ 0 → H 49 j = F 49 j := fun j hj => by rw [g2 49 (by decide), up2_o hj, up2_ne (by decide), b4' 49 (by omega)]
  refine ⟨1, m, up2 F1 15 1 0, L1, T, H, ?_, ?_, ?_, by omega⟩
  · simp only [f_X11_restore, f_X11_restore_0, X11_isImg_y hk, gN_14 hk, gI_P pk, c0, b1, f_X10_forget, f_X10_forget_0, gI_0, gI_2, gI_4, gI_9, gI_15, gI_21, gI_49, gP_0, gP_2, gP_4, gP_9, gP_15, gP_21, gP_49, gR_0, gR_2, gR_4, gR_9, gR_15, gR_21, gR_49, gL_53, gL_54, oPz_0, oPz_1, Option.bind_some, c10, c01, cm1, c00, if_true, if_false, ne_eq, not_true_eq_false, not_false_eq_true]
  · have e : up2 (up2 F1 15 1 0) 49 0 0 59 k = 1 := by simp (disch := omega) only [up2_ne, up2_o, up2_s]; rw [b4' 59 (by omega)]; exact x1
    have g1' : f_X12_restore_32 N N (Hp m (up2 (up2 F1 15 1 0) 49 0 0) L1 T) (some 49) (nI k) 0 = some (1, Hp m H L1 T) := g1
    simp only [f_X12_restore, f_X12_restore_0, X12_in01y hk, (gN_59 hk).1, e, g1', gI_0, gI_2, gI_4, gI_9, gI_15, gI_21, gI_49, gP_0, gP_2, gP_4, gP_9, gP_15, gP_21, gP_49, gR_0, gR_2, gR_4, gR_9, gR_15, gR_21, gR_49, gL_53, gL_54, oPz_0, oPz_1, Option.bind_some, c10, c01, cm1, c00, if_true, if_false, ne_eq, not_true_eq_false, not_false_eq_true]
  · obtain ⟨r1, r2, r3, r4, r5, r6, r7⟩ := R
    refine ⟨r1.same (fun p h => hp p (by omega) (by omega) (by omega) (by omega)), r2.same (by rw [hp 2 (by omega) (by omega) (by omega) (by omega)]) (hk41 8 (by omega)) (hp 55 (by omega) (by omega) (by omega) (by omega)) (hp 3 (by omega) (by omega) (by omega) (by omega)), ?_, ⟨r4.1.mv p4 pk b5 b6, fun j hj => ?_⟩, by rw [hp 0 (by omega) (by omega) (by omega) (by omega), hk41 9 (by omega)]; exact r5, by rw [hp 0 (by omega) (by omega) (by omega) (by omega), hk41 1 (by omega)]; exact r6, r7.same (by rw [hp 21 (by omega) (by omega) (by omega) (by omega)]) (hk41 30 (by omega)) (hp 22 (by omega) (by omega) (by omega) (by omega)) (hp 61 (by omega) (by omega) (by omega) (by omega))⟩
    · refine ⟨P, pv, pm.mv pv (fun i hi => ?_), pc.mv pv (fun i hi => by rw [hp1 4 (by omega) (by omega) (by omega)]; exact b2 i hi) ⟨fun i hi => by rw [hp1 _ (by omega) (by omega) (by omega)]; exact b3.1 i hi, fun i hi => by rw [hp1 _ (by omega) (by omega) (by omega)]; exact b3.2 i hi⟩ b6 (fun t ht => hp t (by omega) (by omega) (by omega) (by omega)), Or.inl ?_⟩
      · rw [g3 i hi]; simp (disch := omega) only [up2_ne, up2_o, up2_s]; rw [b4' 60 (by omega)]
      · rw [g2 15 (by decide)]; simp (disch := omega) only [up2_ne, up2_o, up2_s]
    · rcases r4.2 j hj with ⟨x1, x2⟩ | ⟨x1, Q, x2, x3, x4, x5⟩
      · left
        exact ⟨by rw [hp 59 (by omega) (by omega) (by omega) (by omega)]; exact x1, by rw [hp _ (by omega) (by omega) (by omega) (by omega)]; exact x2⟩
      · right
        refine ⟨by rw [hp 59 (by omega) (by omega) (by omega) (by omega)]; exact x1, Q, x2, x3, x4.mv x2 (fun i hi => ?_), ?_⟩
        · show H 60 (39 * j + i) = F 60 (39 * j + i)
          rw [hp 60 (by omega) (by omega) (by omega) (by omega)]
        · refine x5.mv (q := 39 + 5 * j) x2 (fun i _ => by rw [hp _ (by omega) (by omega) (by omega) (by omega)]) ⟨fun i _ => by rw [hp _ (by omega) (by omega) (by omega) (by omega)], fun i _ => by rw [hp _ (by omega) (by omega) (by omega) (by omega)]⟩ (fun i _ => by rw [b5 _ (by omega)]) (fun t ht => hp t (by omega) (by omega) (by omega) (by omega))
