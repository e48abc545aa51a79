theorem MW.law {G : Nat → Nat → Int32} {P w : Nat → Nat} {kp hf er : Nat} (h : MW G P w kp hf er) {k f : Nat} (hk : k ≤ 3) (hf' : f ≤ 1) : MW (up2 (up2 G 49 18 (nI k)) 49 19 (nI f)) P w k f er := by
  obtain ⟨h1, h2, h3, h4, h5, h6⟩ := h
  refine ⟨fun t ht => ?_, ?_, hk, ?_, hf', fun e he => ?_⟩
  · simp (disch := omega) only [up2_ne, up2_o, up2_s]; exact h1 t ht
  · simp (disch := omega) only [up2_ne, up2_o, up2_s]
  · simp (disch := omega) only [up2_ne, up2_o, up2_s]
  · simp (disch := omega) only [up2_ne, up2_o, up2_s]; exact h6 e he
def lawB (tv : Nat → Int32) (P : Nat → Nat) (law : Nat) : Bool := decide (bitsN (wrg tv (shN P (setN P) (truN P) (law % 4) (law / 4) 1000)) (P 4) = 0)
theorem C_laws_l {N m r : Nat} {F : Nat → Nat → Int32} {L : Nat → Nat → Option Nat} {T : Nat → Nat} {P : Nat → Nat} (hN : 5000 ≤ N) (hr : r < 8) (cv : CV m F L T P (setN P) (P 4)) (h4 : P 4 ≤ 24) (c5 : F 4 5 = nI (P 4)) : ∀ (n i : Nat), i ≤ 8 → 8 < i + n → f_X2_lawsTelling_4 N n (Hp m F L T) (some 4) (some (24 + 2 * r)) (nI (bitsN (lawB (F (24 + 2 * r)) P) i)) (nI i) = some (nI (bitsN (lawB (F (24 + 2 * r)) P) 8), Hp m F L T) := by
  intro n
  induction n with
  | zero => intro i h1 h2; omega
  | succ n ih =>
    intro i h5 h6
    rw [f_X2_lawsTelling_4]
    by_cases hi : i = 8
    · subst hi
      rw [if_pos (by decide)]
    · have hk : ¬ (8 : Int32) ≤ nI i := nI_ge (a := i) (b := 8) (by omega) (by omega)
      rw [if_neg hk]
      have ih' := ih (i + 1) (by omega) (by omega)
      rw [bitsN_s] at ih'
      have r4 : oRm (nI i) 4 = some (nI (i % 4)) := rmN (a := i) (d := 4) (by omega) (by decide) (by decide)
      simp only [r4, dv4 (show i < 2 ^ 31 by omega), C_tells hN hr cv (show i % 4 ≤ 3 by omega) (show i / 4 ≤ 1 by omega) h4 (Nat.le_refl _) c5, f_X2_lawsTelling_30, bB_0, nI_1, gI_0, gI_2, gI_4, gI_9, gI_15, gI_21, gI_49, gP_0, gP_2, gP_4, gP_9, gP_15, gP_21, gP_49, gR_0, gR_2, gR_4, gR_9, gR_15, gR_21, gR_49, gL_53, gL_54, oPz_0, oPz_1, Option.bind_some, c10, c01, cm1, c00, if_true, if_false, ne_eq, not_true_eq_false, not_false_eq_true]
      by_cases hb : lawB (F (24 + 2 * r)) P i = true
      · rw [if_pos hb] at ih'
        rw [if_neg (by unfold lawB at hb; rw [hb]; decide), or_bit _ (by omega)]
        exact ih'
      · rw [if_neg hb, Nat.add_zero] at ih'
        rw [if_pos (by unfold lawB at hb; exact (Bool.not_eq_true _).mp hb)]
        exact ih'
theorem M_laws_l {N m r : Nat} {L : Nat → Nat → Option Nat} {T : Nat → Nat} {P : Nat → Nat} {tv : Nat → Int32} (hN : 5000 ≤ N) (hr : r < 8) (h2 : P 2 ≠ 0) (h4 : P 4 ≤ 24) : ∀ (n i : Nat) (G : Nat → Nat → Int32) (kp hf : Nat), MV G P (setN P) (P 4) → MW G P (truN P) kp hf 1000 → G 53 4 = nI (P 4) → (∀ d, d < P 4 → G 52 (40 * r + d) = tv d ∧ -1 ≤ tv d) → i ≤ 8 → 8 < i + n → ∃ G', f_X12_laws_23 N n (Hp m G L T) (some 49) (nI r) (nI (bitsN (lawB tv P) i)) (nI i) = some (nI (bitsN (lawB tv P) 8), Hp m G' L T) ∧ (∀ p, p ≠ 49 → G' p = G p) ∧ ∀ k, k ≠ 18 → k ≠ 19 → G' 49 k = G 49 k := by
  intro n
  induction n with
  | zero => intro i G kp hf _ _ _ _ h1 h2; omega
  | succ n ih =>
    intro i G kp hf mv mw g4 gt h5 h6
    rw [f_X12_laws_23]
    by_cases hi : i = 8
    · subst hi
      rw [if_pos (by decide)]
      exact ⟨G, rfl, fun _ _ => rfl, fun _ _ _ => rfl⟩
    · have hk : ¬ (8 : Int32) ≤ nI i := nI_ge (a := i) (b := 8) (by omega) (by omega)
      rw [if_neg hk]
      have e1 : nI i &&& 3 = nI (i % 4) := fa_mask i 2
      have e2 : nI i >>> ((2 : Int32) &&& 31) = nI (i / 4) := shrN (s := i) (t := 2) (by omega) (by decide)
      have mw' := mw.law (k := i % 4) (f := i / 4) (by omega) (by omega)
      have mv' : MV (up2 (up2 G 49 18 (nI (i % 4))) 49 19 (nI (i / 4))) P (setN P) (P 4) := mv.same (by simp (disch := omega) only [up2_ne, up2_o, up2_s])
      have g4' : up2 (up2 G 49 18 (nI (i % 4))) 49 19 (nI (i / 4)) 53 4 = nI (P 4) := by simp (disch := omega) only [up2_ne, up2_o, up2_s]; exact g4
      have gt' : ∀ d, d < P 4 → up2 (up2 G 49 18 (nI (i % 4))) 49 19 (nI (i / 4)) 52 (40 * r + d) = tv d ∧ -1 ≤ tv d := fun d hd => by simp (disch := omega) only [up2_ne, up2_o, up2_s]; exact gt d hd
      obtain ⟨G', r1, r2, r3⟩ := ih (i + 1) _ _ _ mv' mw' g4' gt' (by omega) (by omega)
      refine ⟨G', ?_, fun p hp => by rw [r2 p hp]; simp (disch := omega) only [up2_ne, up2_o, up2_s], fun k k1 k2 => by rw [r3 k k1 k2]; simp (disch := omega) only [up2_ne, up2_o, up2_s]⟩
      simp only [e1, e2, M_wrong hN hr mv' mw' h2 h4 (Nat.le_refl _) g4' gt', f_X12_laws_63, or_0, nI_1, gI_0, gI_2, gI_4, gI_9, gI_15, gI_21, gI_49, gP_0, gP_2, gP_4, gP_9, gP_15, gP_21, gP_49, gR_0, gR_2, gR_4, gR_9, gR_15, gR_21, gR_49, gL_53, gL_54, oPz_0, oPz_1, Option.bind_some, c10, c01, cm1, c00, if_true, if_false, ne_eq, not_true_eq_false, not_false_eq_true]
      rw [bitsN_s] at r1
      have hlt := bitsN_lt (wrg tv (shN P (setN P) (truN P) (i % 4) (i / 4) 1000)) (P 4)
      have hp24 : 2 ^ P 4 ≤ 2 ^ 24 := Nat.pow_le_pow_right (by decide) h4
      by_cases hb : lawB tv P i = true
      · rw [if_pos hb] at r1
        unfold lawB at hb
        have hb' := of_decide_eq_true hb
        rw [hb', if_pos (show nI 0 = 0 from rfl), or_bit _ (by omega)]
        exact r1
      · rw [if_neg hb, Nat.add_zero] at r1
        unfold lawB at hb
        have hb' : ¬ bitsN (wrg tv (shN P (setN P) (truN P) (i % 4) (i / 4) 1000)) (P 4) = 0 := fun q => hb (decide_eq_true q)
        rw [if_neg (nI_ne0 (by omega) (by omega))]
        exact r1
theorem o_laws (N : Nat) (hN : 5000 ≤ N) (m : Nat) (F : Nat → Nat → Int32) (L : Nat → Nat → Option Nat) (T : Nat → Nat) (hm : m ≤ 3000) (R : Rel m F L T) (a : Int32) : OpOk (fun A => f_X11_laws N A (some 0) a) (fun A => f_X12_laws N A (some 49) a) m F L T := by
  obtain ⟨P, pv, pm, pc, sr⟩ := R.2.2.1
  have v4 : P 4 ≤ 24 := pv.2.2.2.2.1
  have c5 : F 4 5 = nI (P 4) := pc.2.2.2.2.2.1
  rcases tell hN R pv pm pc a true with ⟨v, F1, F2, h1, h2, h3, h4, h5, -⟩ | ⟨-, hp2, q, hq, rfl, ht, h1, h2⟩
  · have h1' : f_X11_refusalToTell N (Hp m F L T) (some 0) a 0 = some (v, Hp m F1 L T) := h1
    have h4' : f_X12_barred N (Hp m (up2 F1 49 0 0) L T) (some 49) a 1 = some (v, Hp m F2 L T) := h4
    refine ⟨v, m, F1, L, T, F2, ?_, ?_, h5, by omega⟩
    · simp only [f_X11_laws, f_X11_laws_0, f_X11_laws_35, h1', h2, gI_0, gI_2, gI_4, gI_9, gI_15, gI_21, gI_49, gP_0, gP_2, gP_4, gP_9, gP_15, gP_21, gP_49, gR_0, gR_2, gR_4, gR_9, gR_15, gR_21, gR_49, gL_53, gL_54, oPz_0, oPz_1, Option.bind_some, c10, c01, cm1, c00, if_true, if_false, ne_eq, not_true_eq_false, not_false_eq_true]
    · simp only [f_X12_laws, f_X12_laws_0, h4', h3, gI_0, gI_2, gI_4, gI_9, gI_15, gI_21, gI_49, gP_0, gP_2, gP_4, gP_9, gP_15, gP_21, gP_49, gR_0, gR_2, gR_4, gR_9, gR_15, gR_21, gR_49, gL_53, gL_54, oPz_0, oPz_1, Option.bind_some, c10, c01, cm1, c00, if_true, if_false, ne_eq, not_true_eq_false, not_false_eq_true]
  have cv := CV_of pv pc
  obtain ⟨G, g1, g2, g3⟩ := h2 (up2 F 0 8 0) (by simp (disch := omega) only [up2_ne, up2_o, up2_s]) (by simp (disch := omega) only [up2_ne, up2_o, up2_s]) (by simp (disch := omega) only [up2_ne, up2_o, up2_s]) (fun i _ => by simp (disch := omega) only [up2_ne, up2_o, up2_s])
  have gp : ∀ p, p ≠ 56 → p ≠ 49 → p ≠ 0 → G p = F p := fun p p1 p2 p3 => by rw [g2.1 p p1 p2]; simp (disch := omega) only [up2_ne, up2_o, up2_s]
  have g45 := gp 53 (by decide) (by decide) (by decide)
  obtain ⟨G', r1, r2, r3⟩ := M_laws_l (N := N) (m := m) (L := L) (T := T) (tv := F (24 + 2 * q)) hN hq hp2 v4 N 0 G _ _ ((MV_of pv pm).same g45) g3 (by rw [g45]; exact pm.1 4 (by omega)) (fun d hd => by rw [gp 52 (by decide) (by decide) (by decide)]; exact ⟨(ht d hd).2, (ht d hd).1⟩) (by omega) (by omega)
  refine ⟨nI (bitsN (lawB (F (24 + 2 * q)) P) 8), m, up2 F 0 8 0, L, T, G', ?_, ?_, R.pas.lay ⟨fun p p1 p2 => by rw [r2 p p2]; exact g2.1 p p1 p2, fun k k1 k2 k3 => by rw [r3 k k1 k2]; exact g2.2 k k1 k2 k3⟩, by omega⟩
  · have e := C_laws_l (N := N) (m := m) (L := L) (T := T) hN hq cv v4 c5 N 0 (by omega) (by omega)
    have e' : f_X2_lawsTelling_4 N N (Hp m F L T) (some 4) (some (24 + 2 * q)) 0 0 = some (nI (bitsN (lawB (F (24 + 2 * q)) P) 8), Hp m F L T) := e
    simp only [f_X11_laws, f_X11_laws_0, f_X11_laws_35, h1, gN_1 hq, gR_r hq, f_X2_lawsTelling, f_X2_lawsTelling_0, e', f_X11_passed, f_X11_passed_0, gI_0, gI_2, gI_4, gI_9, gI_15, gI_21, gI_49, gP_0, gP_2, gP_4, gP_9, gP_15, gP_21, gP_49, gR_0, gR_2, gR_4, gR_9, gR_15, gR_21, gR_49, gL_53, gL_54, oPz_0, oPz_1, Option.bind_some, c10, c01, cm1, c00, if_true, if_false, ne_eq, not_true_eq_false, not_false_eq_true]
  · have r1' : f_X12_laws_23 N N (Hp m G L T) (some 49) (nI q) 0 0 = some (nI (bitsN (lawB (F (24 + 2 * q)) P) 8), Hp m G' L T) := r1
    have g1' : f_X12_barred N (Hp m (up2 (up2 F 0 8 0) 49 0 0) L T) (some 49) (nI q) 1 = some (0, Hp m G L T) := g1
    simp only [f_X12_laws, f_X12_laws_0, g1', show ((0 : Int32) ≤ 0) = True from eq_true (by decide), r1', gI_0, gI_2, gI_4, gI_9, gI_15, gI_21, gI_49, gP_0, gP_2, gP_4, gP_9, gP_15, gP_21, gP_49, gR_0, gR_2, gR_4, gR_9, gR_15, gR_21, gR_49, gL_53, gL_54, oPz_0, oPz_1, Option.bind_some, c10, c01, cm1, c00, if_true, if_false, ne_eq, not_true_eq_false, not_false_eq_true]
/-- as Lay, and what is truly shown -/
def Lay2 (F G : Nat → Nat → Int32) : Prop := (∀ p, p ≠ 56 → p ≠ 49 → p ≠ 58 → G p = F p) ∧ ∀ k, k ≠ 18 → k ≠ 19 → k ≠ 20 → G 49 k = F 49 k
theorem M_tshown_l {N m D : Nat} {F : Nat → Nat → Int32} {L : Nat → Nat → Option Nat} {T : Nat → Nat} {P S : Nat → Nat} {c : Nat} (hN : 5000 ≤ N) (h2 : P 2 ≠ 0) (mv : MV F P S D) (mw : MW F P (truN P) (P 0) (P 1) 1000) (hc : c ≤ D) : ∀ (n i : Nat) (G : Nat → Nat → Int32), (∀ p, p ≠ 58 → G p = F p) → (∀ q, q < i → G 58 q = nI (shT P S q)) → i ≤ c → c < i + n → ∃ G', f_X12_layTrulyShown_6 N n (Hp m G L T) (some 49) (nI c) (nI i) = some ((), Hp m G' L T) ∧ (∀ p, p ≠ 58 → G' p = F p) ∧ (∀ q, q < c → G' 58 q = nI (shT P S q)) := by
  have hD : D ≤ 26 := mv.2.2.2.2.2.2.2
  intro n
  induction n with
  | zero => intro i G _ _ h1 h2; omega
  | succ n ih =>
    intro i G e1 e2 h5 h6
    rw [f_X12_layTrulyShown_6]
    by_cases hi : i = c
    · rw [if_pos (by rw [hi]; exact Int32.le_refl _)]
      exact ⟨G, rfl, e1, by rw [← hi]; exact e2⟩
    · rw [if_neg (nI_ge (show i < c by omega) (by omega))]
      have mv' : MV G P S D := mv.same (e1 53 (by decide))
      have mw' : MW G P (truN P) (P 0) (P 1) 1000 := by
        unfold MW
        rw [e1 56 (by decide), e1 49 (by decide)]
        exact mw
      obtain ⟨G', r1, r2⟩ := ih (i + 1) (up2 G 58 i (nI (shT P S i))) (fun p hp => by rw [up2_ne hp]; exact e1 p hp) (fun q hq => by
        by_cases h : q = i
        · rw [h, up2_s]
        · rw [up2_o h]; exact e2 q (by omega)) (by omega) (by omega)
      refine ⟨G', ?_, r2⟩
      have es := M_shows (N := N) (m := m) (L := L) (T := T) hN mv' h2 mw' (show i < D by omega)
      simp only [es, (gN_58 (show i < 26 by omega)).2, nI_1, gI_0, gI_2, gI_4, gI_9, gI_15, gI_21, gI_49, gP_0, gP_2, gP_4, gP_9, gP_15, gP_21, gP_49, gR_0, gR_2, gR_4, gR_9, gR_15, gR_21, gR_49, gL_53, gL_54, oPz_0, oPz_1, Option.bind_some, c10, c01, cm1, c00, if_true, if_false, ne_eq, not_true_eq_false, not_false_eq_true]
      exact r1
theorem M_tshown {N m D : Nat} {F : Nat → Nat → Int32} {L : Nat → Nat → Option Nat} {T : Nat → Nat} {P S : Nat → Nat} {c : Nat} (hN : 5000 ≤ N) (pv : PV P) (h2 : P 2 ≠ 0) (mv : MV F P S D) (h0 : F 53 0 = nI (P 0)) (h1 : F 53 1 = nI (P 1)) (h6 : ∀ i, i < P 3 → F 53 (6 + 2 * i) = nI (P (6 + 2 * i))) (hc : c ≤ D) : ∃ G, f_X12_layTrulyShown N (Hp m F L T) (some 49) (nI c) = some ((), Hp m G L T) ∧ Lay2 F G ∧ MW G P (truN P) (P 0) (P 1) 1000 ∧ ∀ q, q < c → G 58 q = nI (shT P S q) := by
  have hD : D ≤ 26 := mv.2.2.2.2.2.2.2
  obtain ⟨G, g1, g2, g3⟩ := M_truly (N := N) (m := m) (L := L) (T := T) hN pv h0 h1 mv.2.2.2.2.1 h6
  have mv' : MV G P S D := mv.same (g2.1 53 (by decide) (by decide))
  obtain ⟨G', r1, r2, r3⟩ := M_tshown_l (N := N) (m := m) (L := L) (T := T) hN h2 mv' g3 hc N 0 G (fun _ _ => rfl) (fun q hq => by omega) (by omega) (by omega)
  have r1' : f_X12_layTrulyShown_6 N N (Hp m G L T) (some 49) (nI c) 0 = some ((), Hp m G' L T) := r1
  refine ⟨G', ?_, ⟨fun p p1 p2 p3 => by rw [r2 p p3]; exact g2.1 p p1 p2, fun k k1 k2 k3 => by rw [r2 49 (by decide)]; exact g2.2 k k1 k2 k3⟩, ?_, r3⟩
  · simp only [f_X12_layTrulyShown, f_X12_layTrulyShown_0, g1, r1', gI_0, gI_2, gI_4, gI_9, gI_15, gI_21, gI_49, gP_0, gP_2, gP_4, gP_9, gP_15, gP_21, gP_49, gR_0, gR_2, gR_4, gR_9, gR_15, gR_21, gR_49, gL_53, gL_54, oPz_0, oPz_1, Option.bind_some, c10, c01, cm1, c00, if_true, if_false, ne_eq, not_true_eq_false, not_false_eq_true]
  · unfold MW
    rw [r2 56 (by decide), r2 49 (by decide)]
    exact g3
theorem Rel.lay2 {m : Nat} {F G : Nat → Nat → Int32} {L : Nat → Nat → Option Nat} {T : Nat → Nat} (R : Rel m F L T) (h : Lay2 F G) : Rel m G L T := by
  obtain ⟨P, pv, pm, pc, sr⟩ := R.2.2.1
  refine R.scr3 pv pm pc (sr.same (h.1 15 (by decide) (by decide) (by decide))) (fun p hp => h.1 p (by omega) (by omega) (by omega)) (h.1 4 (by decide) (by decide) (by decide)) (fun j _ => by rw [h.1 8 (by decide) (by decide) (by decide)]) (fun i _ => by rw [h.1 53 (by decide) (by decide) (by decide)]) ?_ ?_ (by rw [h.1 2 (by decide) (by decide) (by decide)]) (h.2 8 (by decide) (by decide) (by decide)) (by rw [h.1 21 (by decide) (by decide) (by decide)]) (h.2 30 (by decide) (by decide) (by decide))
  · rw [h.1 0 (by decide) (by decide) (by decide), h.2 9 (by decide) (by decide) (by decide)]; exact R.2.2.2.2.1
  · rw [h.1 0 (by decide) (by decide) (by decide), h.2 1 (by decide) (by decide) (by decide)]; exact R.2.2.2.2.2.1
def errB (P : Nat → Nat) (d q : Nat) : Bool := decide (¬ shN P (setN P) (truN P) (P 0) (P 1) d q = shT P (setN P) q)
theorem C_err_l {N m d : Nat} {F : Nat → Nat → Int32} {L : Nat → Nat → Option Nat} {T : Nat → Nat} {P : Nat → Nat} (hN : 5000 ≤ N) (cv : CV m F L T P (setN P) (P 4)) (hd : d < P 4) (h4 : P 4 ≤ 24) (c5 : F 4 5 = nI (P 4)) : ∀ (n i : Nat), i ≤ P 4 → P 4 < i + n → f_X2_changedBy_4 N n (Hp m F L T) (some 4) (nI d) (nI (bitsN (errB P d) i)) (nI i) = some (nI (bitsN (errB P d) (P 4)), Hp m F L T) := by
  have he : ∀ e, e < 26 → (nI e = nI d ↔ e = d) := fun e he => nI_eq (by omega) (by omega)
  have hw : ∀ t, t < P 3 → truN P t ≤ 7 := fun t ht => (cv.2.2.2.2.1 t ht).2.2
  intro n
  induction n with
  | zero => intro i h1 h2; omega
  | succ n ih =>
    intro i h5 h6
    rw [f_X2_changedBy_4]
    simp only [c5, gI_0, gI_2, gI_4, gI_9, gI_15, gI_21, gI_49, gP_0, gP_2, gP_4, gP_9, gP_15, gP_21, gP_49, gR_0, gR_2, gR_4, gR_9, gR_15, gR_21, gR_49, gL_53, gL_54, oPz_0, oPz_1, Option.bind_some, c10, c01, cm1, c00, if_true, if_false, ne_eq, not_true_eq_false, not_false_eq_true]
    by_cases hi : i = P 4
    · rw [if_pos (by rw [hi]; exact Int32.le_refl _), hi]
    · have hi' : i < P 4 := by omega
      rw [if_neg (nI_ge hi' (by omega))]
      have ih' := ih (i + 1) (by omega) (by omega)
      rw [bitsN_s] at ih'
      have b1 : shN P (setN P) (truN P) (P 0) (P 1) d i ≤ 1124 := shN_le cv.1 hw cv.2.1 (by omega)
      have b2 : shT P (setN P) i ≤ 1124 := shN_le cv.1 hw cv.2.1 (by omega)
      simp only [cv.2.2.2.2.2.1, cv.2.2.2.2.2.2.1, C_shownBy hN cv hi' cv.2.1 cv.2.2.1 he, C_shownOn hN cv hi', f_X2_changedBy_40, nI_eq (show shN P (setN P) (truN P) (P 0) (P 1) d i < 2 ^ 31 by omega) (show shT P (setN P) i < 2 ^ 31 by omega), nI_1, gI_0, gI_2, gI_4, gI_9, gI_15, gI_21, gI_49, gP_0, gP_2, gP_4, gP_9, gP_15, gP_21, gP_49, gR_0, gR_2, gR_4, gR_9, gR_15, gR_21, gR_49, gL_53, gL_54, oPz_0, oPz_1, Option.bind_some, c10, c01, cm1, c00, if_true, if_false, ne_eq, not_true_eq_false, not_false_eq_true]
      by_cases hq : shN P (setN P) (truN P) (P 0) (P 1) d i = shT P (setN P) i
      · rw [if_pos hq]
        rw [if_neg (show ¬ errB P d i = true by unfold errB; simp [hq]), Nat.add_zero] at ih'
        exact ih'
      · rw [if_neg hq, or_bit _ (by omega)]
        rw [if_pos (show errB P d i = true by unfold errB; simp [hq])] at ih'
        exact ih'
theorem M_err_l {N m d : Nat} {F : Nat → Nat → Int32} {L : Nat → Nat → Option Nat} {T : Nat → Nat} {P : Nat → Nat} (hN : 5000 ≤ N) (h2 : P 2 ≠ 0) (mv : MV F P (setN P) (P 4)) (mw : MW F P (truN P) (P 0) (P 1) d) (h4 : P 4 ≤ 24) (m4 : F 53 4 = nI (P 4)) (ht : ∀ q, q < P 4 → F 58 q = nI (shT P (setN P) q)) : ∀ (n i : Nat), i ≤ P 4 → P 4 < i + n → f_X12_error_35 N n (Hp m F L T) (some 49) (nI (bitsN (errB P d) i)) (nI i) = some (nI (bitsN (errB P d) (P 4)), Hp m F L T) := by
  have hw : ∀ t, t < P 3 → truN P t ≤ 7 := fun t ht => (mv.2.2.1 t ht).2.2
  have v0 := mw.2.2.1
  intro n
  induction n with
  | zero => intro i h1 h2; omega
  | succ n ih =>
    intro i h5 h6
    rw [f_X12_error_35]
    simp only [m4, gI_0, gI_2, gI_4, gI_9, gI_15, gI_21, gI_49, gP_0, gP_2, gP_4, gP_9, gP_15, gP_21, gP_49, gR_0, gR_2, gR_4, gR_9, gR_15, gR_21, gR_49, gL_53, gL_54, oPz_0, oPz_1, Option.bind_some, c10, c01, cm1, c00, if_true, if_false, ne_eq, not_true_eq_false, not_false_eq_true]
    by_cases hi : i = P 4
    · rw [if_pos (by rw [hi]; exact Int32.le_refl _), hi]
    · have hi' : i < P 4 := by omega
      rw [if_neg (nI_ge hi' (by omega))]
      have ih' := ih (i + 1) (by omega) (by omega)
      rw [bitsN_s] at ih'
      have b1 : shN P (setN P) (truN P) (P 0) (P 1) d i ≤ 1124 := shN_le mv.1 hw v0 (by omega)
      have b2 : shT P (setN P) i ≤ 1124 := shN_le mv.1 hw v0 (by omega)
      simp only [M_shows hN mv h2 mw hi', (gN_58 (show i < 26 by omega)).1, ht i hi', f_X12_error_67, or_0, nI_eq (show shN P (setN P) (truN P) (P 0) (P 1) d i < 2 ^ 31 by omega) (show shT P (setN P) i < 2 ^ 31 by omega), nI_1, gI_0, gI_2, gI_4, gI_9, gI_15, gI_21, gI_49, gP_0, gP_2, gP_4, gP_9, gP_15, gP_21, gP_49, gR_0, gR_2, gR_4, gR_9, gR_15, gR_21, gR_49, gL_53, gL_54, oPz_0, oPz_1, Option.bind_some, c10, c01, cm1, c00, if_true, if_false, ne_eq, not_true_eq_false, not_false_eq_true]
      by_cases hq : shN P (setN P) (truN P) (P 0) (P 1) d i = shT P (setN P) i
      · rw [if_pos hq]
        rw [if_neg (show ¬ errB P d i = true by unfold errB; simp [hq]), Nat.add_zero] at ih'
        exact ih'
      · rw [if_neg hq, or_bit _ (by omega)]
        rw [if_pos (show errB P d i = true by unfold errB; simp [hq])] at ih'
        exact ih'
theorem o_error (N : Nat) (hN : 5000 ≤ N) (m : Nat) (F : Nat → Nat → Int32) (L : Nat → Nat → Option Nat) (T : Nat → Nat) (hm : m ≤ 3000) (R : Rel m F L T) (a : Int32) : OpOk (fun A => f_X11_error N A (some 0) a) (fun A => f_X12_error N A (some 49) a) m F L T := by
  obtain ⟨P, pv, pm, pc, sr⟩ := R.2.2.1
  have v4 : P 4 ≤ 24 := pv.2.2.2.2.1
  have c5 : F 4 5 = nI (P 4) := pc.2.2.2.2.2.1
  have m4 : up2 F 49 0 0 53 4 = nI (P 4) := by simp (disch := omega) only [up2_ne, up2_o, up2_s]; exact pm.1 4 (by omega)
  have bad : (a < 0 ∨ nI (P 4) ≤ a) → OpOk (fun A => f_X11_error N A (some 0) a) (fun A => f_X12_error N A (some 49) a) m F L T := by
    intro h
    refine ⟨-1000001, m, F, L, T, up2 F 49 0 0, ?_, ?_, R.thr 0, by omega⟩
    · simp only [f_X11_error, f_X11_error_0, f_X11_error_24, C_day_n c5 h, gI_0, gI_2, gI_4, gI_9, gI_15, gI_21, gI_49, gP_0, gP_2, gP_4, gP_9, gP_15, gP_21, gP_49, gR_0, gR_2, gR_4, gR_9, gR_15, gR_21, gR_49, gL_53, gL_54, oPz_0, oPz_1, Option.bind_some, c10, c01, cm1, c00, if_true, if_false, ne_eq, not_true_eq_false, not_false_eq_true]
    · simp only [f_X12_error, f_X12_error_0, M_day_n v4 m4 h, gI_0, gI_2, gI_4, gI_9, gI_15, gI_21, gI_49, gP_0, gP_2, gP_4, gP_9, gP_15, gP_21, gP_49, gR_0, gR_2, gR_4, gR_9, gR_15, gR_21, gR_49, gL_53, gL_54, oPz_0, oPz_1, Option.bind_some, c10, c01, cm1, c00, if_true, if_false, ne_eq, not_true_eq_false, not_false_eq_true]
  rcases pk_ix a (n := P 4) (by omega) with h | h | ⟨d, hd, rfl⟩
  · exact bad (Or.inl h)
  · exact bad (Or.inr h)
  clear bad
  have hp2 : P 2 ≠ 0 := fun h => by have := pv.2.2.2.2.2.1 h; omega
  have cv := CV_of pv pc
  have mv := (MV_of pv pm).same (show up2 F 49 0 0 53 = F 53 by simp (disch := omega) only [up2_ne, up2_o, up2_s])
  obtain ⟨G, g1, g2, g3, g4⟩ := M_tshown (N := N) (m := m) (F := up2 F 49 0 0) (L := L) (T := T) (c := P 4) hN pv hp2 mv (by simp (disch := omega) only [up2_ne, up2_o, up2_s]; exact pm.1 0 (by omega)) (by simp (disch := omega) only [up2_ne, up2_o, up2_s]; exact pm.1 1 (by omega)) (fun i hi => by simp (disch := omega) only [up2_ne, up2_o, up2_s]; exact (pm.2.1 i hi).2) (Nat.le_refl _)
  have g45 : G 53 = F 53 := by rw [g2.1 53 (by decide) (by decide) (by decide)]; simp (disch := omega) only [up2_ne, up2_o, up2_s]
  have mvG : MV (up2 G 49 20 (nI d)) P (setN P) (P 4) := (MV_of pv pm).same (by simp (disch := omega) only [up2_ne, up2_o, up2_s]; exact g45)
  have mwG : MW (up2 G 49 20 (nI d)) P (truN P) (P 0) (P 1) d := by
    obtain ⟨h1, h2, h3, h4, h5, h6⟩ := g3
    refine ⟨fun t ht => ?_, ?_, h3, ?_, h5, fun e he => ?_⟩
    · simp (disch := omega) only [up2_ne, up2_o, up2_s]; exact h1 t ht
    · simp (disch := omega) only [up2_ne, up2_o, up2_s]; exact h2
    · simp (disch := omega) only [up2_ne, up2_o, up2_s]; exact h4
    · simp (disch := omega) only [up2_ne, up2_o, up2_s]; exact nI_eq (by omega) (by omega)
  have em := M_err_l (N := N) (m := m) (L := L) (T := T) hN hp2 mvG mwG v4 (by simp (disch := omega) only [up2_ne, up2_o, up2_s]; rw [g45]; exact pm.1 4 (by omega)) (fun q hq => by simp (disch := omega) only [up2_ne, up2_o, up2_s]; exact g4 q hq) N 0 (by omega) (by omega)
  have em' : f_X12_error_35 N N (Hp m (up2 G 49 20 (nI d)) L T) (some 49) 0 0 = some (nI (bitsN (errB P d) (P 4)), Hp m (up2 G 49 20 (nI d)) L T) := em
  have ec := C_err_l (N := N) (m := m) (L := L) (T := T) hN cv hd v4 c5 N 0 (by omega) (by omega)
  have ec' : f_X2_changedBy_4 N N (Hp m F L T) (some 4) (nI d) 0 0 = some (nI (bitsN (errB P d) (P 4)), Hp m F L T) := ec
  refine ⟨nI (bitsN (errB P d) (P 4)), m, F, L, T, up2 G 49 20 (nI d), ?_, ?_, (R.thr 0).lay2 ⟨fun p p1 p2 p3 => by rw [up2_ne p2]; exact g2.1 p p1 p2 p3, fun k k1 k2 k3 => by rw [up2_o k3]; exact g2.2 k k1 k2 k3⟩, by omega⟩
  · simp only [f_X11_error, f_X11_error_0, f_X11_error_24, C_day_y v4 c5 hd, f_X2_changedBy, f_X2_changedBy_0, ec', gI_0, gI_2, gI_4, gI_9, gI_15, gI_21, gI_49, gP_0, gP_2, gP_4, gP_9, gP_15, gP_21, gP_49, gR_0, gR_2, gR_4, gR_9, gR_15, gR_21, gR_49, gL_53, gL_54, oPz_0, oPz_1, Option.bind_some, c10, c01, cm1, c00, if_true, if_false, ne_eq, not_true_eq_false, not_false_eq_true]
  · simp only [f_X12_error, f_X12_error_0, M_day_y v4 m4 hd, m4, g1, em', gI_0, gI_2, gI_4, gI_9, gI_15, gI_21, gI_49, gP_0, gP_2, gP_4, gP_9, gP_15, gP_21, gP_49, gR_0, gR_2, gR_4, gR_9, gR_15, gR_21, gR_49, gL_53, gL_54, oPz_0, oPz_1, Option.bind_some, c10, c01, cm1, c00, if_true, if_false, ne_eq, not_true_eq_false, not_false_eq_true]
