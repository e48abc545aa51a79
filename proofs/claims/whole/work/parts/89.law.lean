theorem oX_at {K i k : Nat} {xs : Nat → Int32} {c : Int32} (hK : K ≤ 3072) (h : 6 * i + k < K) (hc : c = nI k) : oX K xs (nI (6 * i) + c) = some (xs (6 * i + k)) := by
  subst hc
  rw [nI_add]
  unfold oX
  rw [if_neg (nI_in h (by omega)), nI_clamp (by omega)]
theorem oX_0 {K i : Nat} {xs : Nat → Int32} (hK : K ≤ 3072) (h : 6 * i < K) : oX K xs (nI (6 * i)) = some (xs (6 * i)) := by
  unfold oX
  rw [if_neg (nI_in h (by omega)), nI_clamp (by omega)]
theorem op_go {fx fm : hP → Option (Int32 × hP)} {m : Nat} {F : Nat → Nat → Int32} {L : Nat → Nat → Option Nat} {T : Nat → Nat} {k : hP → Option (Int32 × hP)} {e : Int32 × hP → Int32 × hP → Option (Int32 × hP)} (h : OpOk fx fm m F L T) (hk : ∀ m' F' L' T', Rel m' F' L' T' → m' ≤ m + 4 → ∃ res, k (Hp m' F' L' T') = some res) :
    ∃ res, ((oCk (Hp m F L T) (some 0) 10).bind fun _ => (fx (Hp m F L T)).bind fun q => (oCk q.2 (some 49) 11).bind fun _ => (fm q.2).bind fun r => if q.1 = r.1 then k r.2 else e q r) = some res := by
  obtain ⟨a, m', F1, L1, T1, F2, h1, h2, h3, h4⟩ := h
  obtain ⟨res, h5⟩ := hk m' F2 L1 T1 h3 h4
  refine ⟨res, ?_⟩
  rw [gR_0.2.2.2.2.2.2.2.2, h1]
  simp only [Option.bind_some, gR_49.2.2.2.2.2.2.2.2.2.2.2.2.2, h2, if_true]
  exact h5
set_option maxRecDepth 20000 in
set_option maxHeartbeats 8000000 in
theorem law_step (o_row : ∀ (N : Nat), 5000 ≤ N → ∀ (m : Nat) (F : Nat → Nat → Int32) (L : Nat → Nat → Option Nat) (T : Nat → Nat), m ≤ 3000 → Rel m F L T → ∀ (a b c : Int32), OpOk (fun A => f_X11_row N A (some 0) a b c) (fun A => f_X12_row N A (some 49) a b c) m F L T)
    (o_set : ∀ (N : Nat), 5000 ≤ N → ∀ (m : Nat) (F : Nat → Nat → Int32) (L : Nat → Nat → Option Nat) (T : Nat → Nat), m ≤ 3000 → Rel m F L T → ∀ (a b c : Int32), OpOk (fun A => f_X11_set N A (some 0) a b c) (fun A => f_X12_set N A (some 49) a b c) m F L T)
    (o_copy : ∀ (N : Nat), 5000 ≤ N → ∀ (m : Nat) (F : Nat → Nat → Int32) (L : Nat → Nat → Option Nat) (T : Nat → Nat), m ≤ 3000 → Rel m F L T → ∀ (a b c d e : Int32), OpOk (fun A => f_X11_copy N A (some 0) a b c d e) (fun A => f_X12_copy N A (some 49) a b c d e) m F L T)
    (o_drop : ∀ (N : Nat), 5000 ≤ N → ∀ (m : Nat) (F : Nat → Nat → Int32) (L : Nat → Nat → Option Nat) (T : Nat → Nat), m ≤ 3000 → Rel m F L T → ∀ (a : Int32), OpOk (fun A => f_X11_drop N A (some 0) a) (fun A => f_X12_drop N A (some 49) a) m F L T)
    (o_feed : ∀ (N : Nat), 5000 ≤ N → ∀ (m : Nat) (F : Nat → Nat → Int32) (L : Nat → Nat → Option Nat) (T : Nat → Nat), m ≤ 3000 → Rel m F L T → ∀ (w : Int64) (j : Int32), OpOk (fun A => f_X11_feed N A (some 0) w j) (fun A => f_X12_feed N A (some 49) w j) m F L T)
    (o_port : ∀ (N : Nat), 5000 ≤ N → ∀ (m : Nat) (F : Nat → Nat → Int32) (L : Nat → Nat → Option Nat) (T : Nat → Nat), m ≤ 3000 → Rel m F L T → OpOk (fun A => f_X11_port N A (some 0) ) (fun A => f_X12_port N A (some 49) ) m F L T)
    (o_fault : ∀ (N : Nat), 5000 ≤ N → ∀ (m : Nat) (F : Nat → Nat → Int32) (L : Nat → Nat → Option Nat) (T : Nat → Nat), m ≤ 3000 → Rel m F L T → OpOk (fun A => f_X11_fault N A (some 0) ) (fun A => f_X12_fault N A (some 49) ) m F L T)
    (o_day : ∀ (N : Nat), 5000 ≤ N → ∀ (m : Nat) (F : Nat → Nat → Int32) (L : Nat → Nat → Option Nat) (T : Nat → Nat), m ≤ 3000 → Rel m F L T → ∀ (a : Int32), OpOk (fun A => f_X11_day N A (some 0) a) (fun A => f_X12_day N A (some 49) a) m F L T)
    (o_undo : ∀ (N : Nat), 5000 ≤ N → ∀ (m : Nat) (F : Nat → Nat → Int32) (L : Nat → Nat → Option Nat) (T : Nat → Nat), m ≤ 3000 → Rel m F L T → OpOk (fun A => f_X11_undo N A (some 0) ) (fun A => f_X12_undo N A (some 49) ) m F L T)
    (o_shown : ∀ (N : Nat), 5000 ≤ N → ∀ (m : Nat) (F : Nat → Nat → Int32) (L : Nat → Nat → Option Nat) (T : Nat → Nat), m ≤ 3000 → Rel m F L T → ∀ (a b : Int32), OpOk (fun A => f_X11_shown N A (some 0) a b) (fun A => f_X12_shown N A (some 49) a b) m F L T)
    (o_heavy : ∀ (N : Nat), 5000 ≤ N → ∀ (m : Nat) (F : Nat → Nat → Int32) (L : Nat → Nat → Option Nat) (T : Nat → Nat), m ≤ 3000 → Rel m F L T → ∀ (a b : Int32), OpOk (fun A => f_X11_heavy N A (some 0) a b) (fun A => f_X12_heavy N A (some 49) a b) m F L T)
    (o_next : ∀ (N : Nat), 5000 ≤ N → ∀ (m : Nat) (F : Nat → Nat → Int32) (L : Nat → Nat → Option Nat) (T : Nat → Nat), m ≤ 3000 → Rel m F L T → ∀ (a : Int32), OpOk (fun A => f_X11_next N A (some 0) a) (fun A => f_X12_next N A (some 49) a) m F L T)
    (o_fits : ∀ (N : Nat), 5000 ≤ N → ∀ (m : Nat) (F : Nat → Nat → Int32) (L : Nat → Nat → Option Nat) (T : Nat → Nat), m ≤ 3000 → Rel m F L T → ∀ (a b c : Int32), OpOk (fun A => f_X11_fits N A (some 0) a b c) (fun A => f_X12_fits N A (some 49) a b c) m F L T)
    (o_sure : ∀ (N : Nat), 5000 ≤ N → ∀ (m : Nat) (F : Nat → Nat → Int32) (L : Nat → Nat → Option Nat) (T : Nat → Nat), m ≤ 3000 → Rel m F L T → ∀ (a b : Int32), OpOk (fun A => f_X11_sure N A (some 0) a b) (fun A => f_X12_sure N A (some 49) a b) m F L T)
    (o_gap : ∀ (N : Nat), 5000 ≤ N → ∀ (m : Nat) (F : Nat → Nat → Int32) (L : Nat → Nat → Option Nat) (T : Nat → Nat), m ≤ 3000 → Rel m F L T → ∀ (a b : Int32), OpOk (fun A => f_X11_gap N A (some 0) a b) (fun A => f_X12_gap N A (some 49) a b) m F L T)
    (o_wrong : ∀ (N : Nat), 5000 ≤ N → ∀ (m : Nat) (F : Nat → Nat → Int32) (L : Nat → Nat → Option Nat) (T : Nat → Nat), m ≤ 3000 → Rel m F L T → ∀ (a b : Int32), OpOk (fun A => f_X11_wrong N A (some 0) a b) (fun A => f_X12_wrong N A (some 49) a b) m F L T)
    (o_soon : ∀ (N : Nat), 5000 ≤ N → ∀ (m : Nat) (F : Nat → Nat → Int32) (L : Nat → Nat → Option Nat) (T : Nat → Nat), m ≤ 3000 → Rel m F L T → ∀ (a : Int32), OpOk (fun A => f_X11_soon N A (some 0) a) (fun A => f_X12_soon N A (some 49) a) m F L T)
    (o_laws : ∀ (N : Nat), 5000 ≤ N → ∀ (m : Nat) (F : Nat → Nat → Int32) (L : Nat → Nat → Option Nat) (T : Nat → Nat), m ≤ 3000 → Rel m F L T → ∀ (a : Int32), OpOk (fun A => f_X11_laws N A (some 0) a) (fun A => f_X12_laws N A (some 49) a) m F L T)
    (o_error : ∀ (N : Nat), 5000 ≤ N → ∀ (m : Nat) (F : Nat → Nat → Int32) (L : Nat → Nat → Option Nat) (T : Nat → Nat), m ≤ 3000 → Rel m F L T → ∀ (a : Int32), OpOk (fun A => f_X11_error N A (some 0) a) (fun A => f_X12_error N A (some 49) a) m F L T)
    (o_sold : ∀ (N : Nat), 5000 ≤ N → ∀ (m : Nat) (F : Nat → Nat → Int32) (L : Nat → Nat → Option Nat) (T : Nat → Nat), m ≤ 3000 → Rel m F L T → ∀ (a b : Int32), OpOk (fun A => f_X11_sold N A (some 0) a b) (fun A => f_X12_sold N A (some 49) a b) m F L T)
    (o_image : ∀ (N : Nat), 5000 ≤ N → ∀ (m : Nat) (F : Nat → Nat → Int32) (L : Nat → Nat → Option Nat) (T : Nat → Nat), m ≤ 3000 → Rel m F L T → ∀ (a : Int32), OpOk (fun A => f_X11_image N A (some 0) a) (fun A => f_X12_image N A (some 49) a) m F L T)
    (o_restore : ∀ (N : Nat), 5000 ≤ N → ∀ (m : Nat) (F : Nat → Nat → Int32) (L : Nat → Nat → Option Nat) (T : Nat → Nat), m ≤ 3000 → Rel m F L T → ∀ (a : Int32), OpOk (fun A => f_X11_restore N A (some 0) a) (fun A => f_X12_restore N A (some 49) a) m F L T)
    (o_kind : ∀ (N : Nat), 5000 ≤ N → ∀ (m : Nat) (F : Nat → Nat → Int32) (L : Nat → Nat → Option Nat) (T : Nat → Nat), m ≤ 3000 → Rel m F L T → ∀ (a : Int32), OpOk (fun A => f_X11_kind N A (some 0) a) (fun A => f_X12_kind N A (some 49) a) m F L T)
    (o_as : ∀ (N : Nat), 5000 ≤ N → ∀ (m : Nat) (F : Nat → Nat → Int32) (L : Nat → Nat → Option Nat) (T : Nat → Nat), m ≤ 3000 → Rel m F L T → ∀ (a b : Int32), OpOk (fun A => f_X11_as N A (some 0) a b) (fun A => f_X12_as N A (some 49) a b) m F L T)
    (o_ask : ∀ (N : Nat), 5000 ≤ N → ∀ (m : Nat) (F : Nat → Nat → Int32) (L : Nat → Nat → Option Nat) (T : Nat → Nat), m ≤ 3000 → Rel m F L T → ∀ (a b : Int32), OpOk (fun A => f_X11_ask N A (some 0) a b) (fun A => f_X12_ask N A (some 49) a b) m F L T)
    (o_trace : ∀ (N : Nat), 5000 ≤ N → ∀ (m : Nat) (F : Nat → Nat → Int32) (L : Nat → Nat → Option Nat) (T : Nat → Nat), m ≤ 3000 → Rel m F L T → ∀ (a : Int32), OpOk (fun A => f_X11_trace N A (some 0) a) (fun A => f_X12_trace N A (some 49) a) m F L T)
    (o_count : ∀ (N : Nat), 5000 ≤ N → ∀ (m : Nat) (F : Nat → Nat → Int32) (L : Nat → Nat → Option Nat) (T : Nat → Nat), m ≤ 3000 → Rel m F L T → ∀ (a : Int32), OpOk (fun A => f_X11_count N A (some 0) a) (fun A => f_X12_count N A (some 49) a) m F L T)
    (o_status : ∀ (N : Nat), 5000 ≤ N → ∀ (m : Nat) (F : Nat → Nat → Int32) (L : Nat → Nat → Option Nat) (T : Nat → Nat), m ≤ 3000 → Rel m F L T → OpOk (fun A => f_X11_status N A (some 0) ) (fun A => f_X12_status N A (some 49) ) m F L T)
    {N n i m K cs ss : Nat} {F : Nat → Nat → Int32} {L : Nat → Nat → Option Nat} {T : Nat → Nat} {xs : Nat → Int32} (hN : 5000 ≤ N) (hK : K ≤ 3072) (hi : 6 * i + 6 ≤ K) (hm : m ≤ 3000) (R : Rel m F L T) (hcs : cs + 10 ≤ 600000) (hss : ss + 20 ≤ 7302250)
    (ih : ∀ m' F' L' T' cs' ss', Rel m' F' L' T' → m' ≤ m + 4 → cs' ≤ cs + 4 → ss' ≤ ss + 8 → ∃ res, f_L_law_18 K xs N n (Hp m' F' L' T') cs' ss' (some 0) (some 49) (nI (6 * i) + 6) = some res) : ∃ res, f_L_law_18 K xs N (n + 1) (Hp m F L T) cs ss (some 0) (some 49) (nI (6 * i)) = some res := by
  rw [f_L_law_18]
  have hlt : ¬ (Int32.ofNat K - 6 < nI (6 * i)) := by
    have e : Int32.ofNat K - 6 = nI (K - 6) := pk_sub (a := K) (b := 6) (by omega)
    rw [e]
    exact nI_nlt (by omega) (by omega)
  rw [if_neg hlt, oX_0 hK (by omega)]
  have X1 := oX_at (xs := xs) (c := 1) (k := 1) (i := i) hK (by omega) rfl
  have X2 := oX_at (xs := xs) (c := 2) (k := 2) (i := i) hK (by omega) rfl
  have X3 := oX_at (xs := xs) (c := 3) (k := 3) (i := i) hK (by omega) rfl
  have X4 := oX_at (xs := xs) (c := 4) (k := 4) (i := i) hK (by omega) rfl
  have X5 := oX_at (xs := xs) (c := 5) (k := 5) (i := i) hK (by omega) rfl
  have c0 : (cs ≤ 600000 ∧ ss ≤ 7302250) = True := eq_true ⟨by omega, by omega⟩
  have c4 : (cs + 4 ≤ 600000 ∧ ss + 8 ≤ 7302250) = True := eq_true ⟨by omega, by omega⟩
  have ih0 := fun m' F' L' T' R' h' => ih m' F' L' T' cs ss R' h' (by omega) (by omega)
  have ihp := fun m' F' L' T' R' h' => ih m' F' L' T' (cs + 4) (ss + 8) R' h' (by omega) (by omega)
  rw [Option.bind_some]
  by_cases h0 : xs (6 * i) &&& 31 = 0
  · rw [if_pos h0]
    simp only [X1, X2, X3, Option.bind_some, Nat.add_zero, c0, c4, and_self, if_true, f_L_law_984]
    exact op_go (k := fun A => f_L_law_18 K xs N n A cs ss (some 0) (some 49) (nI (6 * i) + 6)) (fx := fun A => f_X11_row N A (some 0) _ _ _) (fm := fun A => f_X12_row N A (some 49) _ _ _) (o_row N hN m F L T hm R _ _ _) (fun m' F' L' T' R' h' => ih0 m' F' L' T' R' h')
  rw [if_neg h0]
  by_cases h1 : xs (6 * i) &&& 31 = 1
  · rw [if_pos h1]
    simp only [X1, X2, X3, Option.bind_some, Nat.add_zero, c0, c4, and_self, if_true, f_L_law_984]
    exact op_go (k := fun A => f_L_law_18 K xs N n A cs ss (some 0) (some 49) (nI (6 * i) + 6)) (fx := fun A => f_X11_set N A (some 0) _ _ _) (fm := fun A => f_X12_set N A (some 49) _ _ _) (o_set N hN m F L T hm R _ _ _) (fun m' F' L' T' R' h' => ih0 m' F' L' T' R' h')
  rw [if_neg h1]
  by_cases h2 : xs (6 * i) &&& 31 = 2
  · rw [if_pos h2]
    simp only [X1, X2, X3, X4, X5, Option.bind_some, Nat.add_zero, c0, c4, and_self, if_true, f_L_law_984]
    exact op_go (k := fun A => f_L_law_18 K xs N n A cs ss (some 0) (some 49) (nI (6 * i) + 6)) (fx := fun A => f_X11_copy N A (some 0) _ _ _ _ _) (fm := fun A => f_X12_copy N A (some 49) _ _ _ _ _) (o_copy N hN m F L T hm R _ _ _ _ _) (fun m' F' L' T' R' h' => ih0 m' F' L' T' R' h')
  rw [if_neg h2]
  by_cases h3 : xs (6 * i) &&& 31 = 3
  · rw [if_pos h3]
    simp only [X1, Option.bind_some, Nat.add_zero, c0, c4, and_self, if_true, f_L_law_984]
    exact op_go (k := fun A => f_L_law_18 K xs N n A cs ss (some 0) (some 49) (nI (6 * i) + 6)) (fx := fun A => f_X11_drop N A (some 0) _) (fm := fun A => f_X12_drop N A (some 49) _) (o_drop N hN m F L T hm R _) (fun m' F' L' T' R' h' => ih0 m' F' L' T' R' h')
  rw [if_neg h3]
  by_cases h4 : xs (6 * i) &&& 31 = 4
  · rw [if_pos h4]
    simp only [X1, X2, X3, Option.bind_some, Nat.add_zero, c0, c4, and_self, if_true, f_L_law_984]
    exact op_go (k := fun A => f_L_law_18 K xs N n A cs ss (some 0) (some 49) (nI (6 * i) + 6)) (fx := fun A => f_X11_feed N A (some 0) _ _) (fm := fun A => f_X12_feed N A (some 49) _ _) (o_feed N hN m F L T hm R _ _) (fun m' F' L' T' R' h' => ih0 m' F' L' T' R' h')
  rw [if_neg h4]
  by_cases h5 : xs (6 * i) &&& 31 = 5
  · rw [if_pos h5]
    simp only [Option.bind_some, Nat.add_zero, c0, c4, and_self, if_true, f_L_law_984]
    exact op_go (k := fun A => f_L_law_18 K xs N n A (cs + 4) (ss + 8) (some 0) (some 49) (nI (6 * i) + 6)) (fx := fun A => f_X11_port N A (some 0) ) (fm := fun A => f_X12_port N A (some 49) ) (o_port N hN m F L T hm R ) (fun m' F' L' T' R' h' => ihp m' F' L' T' R' h')
  rw [if_neg h5]
  by_cases h6 : xs (6 * i) &&& 31 = 6
  · rw [if_pos h6]
    simp only [Option.bind_some, Nat.add_zero, c0, c4, and_self, if_true, f_L_law_984]
    exact op_go (k := fun A => f_L_law_18 K xs N n A cs ss (some 0) (some 49) (nI (6 * i) + 6)) (fx := fun A => f_X11_fault N A (some 0) ) (fm := fun A => f_X12_fault N A (some 49) ) (o_fault N hN m F L T hm R ) (fun m' F' L' T' R' h' => ih0 m' F' L' T' R' h')
  rw [if_neg h6]
  by_cases h7 : xs (6 * i) &&& 31 = 7
  · rw [if_pos h7]
    simp only [X1, Option.bind_some, Nat.add_zero, c0, c4, and_self, if_true, f_L_law_984]
    exact op_go (k := fun A => f_L_law_18 K xs N n A cs ss (some 0) (some 49) (nI (6 * i) + 6)) (fx := fun A => f_X11_day N A (some 0) _) (fm := fun A => f_X12_day N A (some 49) _) (o_day N hN m F L T hm R _) (fun m' F' L' T' R' h' => ih0 m' F' L' T' R' h')
  rw [if_neg h7]
  by_cases h8 : xs (6 * i) &&& 31 = 8
  · rw [if_pos h8]
    simp only [Option.bind_some, Nat.add_zero, c0, c4, and_self, if_true, f_L_law_984]
    exact op_go (k := fun A => f_L_law_18 K xs N n A cs ss (some 0) (some 49) (nI (6 * i) + 6)) (fx := fun A => f_X11_undo N A (some 0) ) (fm := fun A => f_X12_undo N A (some 49) ) (o_undo N hN m F L T hm R ) (fun m' F' L' T' R' h' => ih0 m' F' L' T' R' h')
  rw [if_neg h8]
  by_cases h9 : xs (6 * i) &&& 31 = 9
  · rw [if_pos h9]
    simp only [X1, X2, Option.bind_some, Nat.add_zero, c0, c4, and_self, if_true, f_L_law_984]
    exact op_go (k := fun A => f_L_law_18 K xs N n A cs ss (some 0) (some 49) (nI (6 * i) + 6)) (fx := fun A => f_X11_shown N A (some 0) _ _) (fm := fun A => f_X12_shown N A (some 49) _ _) (o_shown N hN m F L T hm R _ _) (fun m' F' L' T' R' h' => ih0 m' F' L' T' R' h')
  rw [if_neg h9]
  by_cases h10 : xs (6 * i) &&& 31 = 10
  · rw [if_pos h10]
    simp only [X1, X2, Option.bind_some, Nat.add_zero, c0, c4, and_self, if_true, f_L_law_984]
    exact op_go (k := fun A => f_L_law_18 K xs N n A cs ss (some 0) (some 49) (nI (6 * i) + 6)) (fx := fun A => f_X11_heavy N A (some 0) _ _) (fm := fun A => f_X12_heavy N A (some 49) _ _) (o_heavy N hN m F L T hm R _ _) (fun m' F' L' T' R' h' => ih0 m' F' L' T' R' h')
  rw [if_neg h10]
  by_cases h11 : xs (6 * i) &&& 31 = 11
  · rw [if_pos h11]
    simp only [X1, Option.bind_some, Nat.add_zero, c0, c4, and_self, if_true, f_L_law_984]
    exact op_go (k := fun A => f_L_law_18 K xs N n A cs ss (some 0) (some 49) (nI (6 * i) + 6)) (fx := fun A => f_X11_next N A (some 0) _) (fm := fun A => f_X12_next N A (some 49) _) (o_next N hN m F L T hm R _) (fun m' F' L' T' R' h' => ih0 m' F' L' T' R' h')
  rw [if_neg h11]
  by_cases h12 : xs (6 * i) &&& 31 = 12
  · rw [if_pos h12]
    simp only [X1, X2, X3, Option.bind_some, Nat.add_zero, c0, c4, and_self, if_true, f_L_law_984]
    exact op_go (k := fun A => f_L_law_18 K xs N n A cs ss (some 0) (some 49) (nI (6 * i) + 6)) (fx := fun A => f_X11_fits N A (some 0) _ _ _) (fm := fun A => f_X12_fits N A (some 49) _ _ _) (o_fits N hN m F L T hm R _ _ _) (fun m' F' L' T' R' h' => ih0 m' F' L' T' R' h')
  rw [if_neg h12]
  by_cases h13 : xs (6 * i) &&& 31 = 13
  · rw [if_pos h13]
    simp only [X1, X2, Option.bind_some, Nat.add_zero, c0, c4, and_self, if_true, f_L_law_984]
    exact op_go (k := fun A => f_L_law_18 K xs N n A cs ss (some 0) (some 49) (nI (6 * i) + 6)) (fx := fun A => f_X11_sure N A (some 0) _ _) (fm := fun A => f_X12_sure N A (some 49) _ _) (o_sure N hN m F L T hm R _ _) (fun m' F' L' T' R' h' => ih0 m' F' L' T' R' h')
  rw [if_neg h13]
  by_cases h14 : xs (6 * i) &&& 31 = 14
  · rw [if_pos h14]
    simp only [X1, X2, Option.bind_some, Nat.add_zero, c0, c4, and_self, if_true, f_L_law_984]
    exact op_go (k := fun A => f_L_law_18 K xs N n A cs ss (some 0) (some 49) (nI (6 * i) + 6)) (fx := fun A => f_X11_gap N A (some 0) _ _) (fm := fun A => f_X12_gap N A (some 49) _ _) (o_gap N hN m F L T hm R _ _) (fun m' F' L' T' R' h' => ih0 m' F' L' T' R' h')
  rw [if_neg h14]
  by_cases h15 : xs (6 * i) &&& 31 = 15
  · rw [if_pos h15]
    simp only [X1, X2, Option.bind_some, Nat.add_zero, c0, c4, and_self, if_true, f_L_law_984]
    exact op_go (k := fun A => f_L_law_18 K xs N n A cs ss (some 0) (some 49) (nI (6 * i) + 6)) (fx := fun A => f_X11_wrong N A (some 0) _ _) (fm := fun A => f_X12_wrong N A (some 49) _ _) (o_wrong N hN m F L T hm R _ _) (fun m' F' L' T' R' h' => ih0 m' F' L' T' R' h')
  rw [if_neg h15]
  by_cases h16 : xs (6 * i) &&& 31 = 16
  · rw [if_pos h16]
    simp only [X1, Option.bind_some, Nat.add_zero, c0, c4, and_self, if_true, f_L_law_984]
    exact op_go (k := fun A => f_L_law_18 K xs N n A cs ss (some 0) (some 49) (nI (6 * i) + 6)) (fx := fun A => f_X11_soon N A (some 0) _) (fm := fun A => f_X12_soon N A (some 49) _) (o_soon N hN m F L T hm R _) (fun m' F' L' T' R' h' => ih0 m' F' L' T' R' h')
  rw [if_neg h16]
  by_cases h17 : xs (6 * i) &&& 31 = 17
  · rw [if_pos h17]
    simp only [X1, Option.bind_some, Nat.add_zero, c0, c4, and_self, if_true, f_L_law_984]
    exact op_go (k := fun A => f_L_law_18 K xs N n A cs ss (some 0) (some 49) (nI (6 * i) + 6)) (fx := fun A => f_X11_laws N A (some 0) _) (fm := fun A => f_X12_laws N A (some 49) _) (o_laws N hN m F L T hm R _) (fun m' F' L' T' R' h' => ih0 m' F' L' T' R' h')
  rw [if_neg h17]
  by_cases h18 : xs (6 * i) &&& 31 = 18
  · rw [if_pos h18]
    simp only [X1, Option.bind_some, Nat.add_zero, c0, c4, and_self, if_true, f_L_law_984]
    exact op_go (k := fun A => f_L_law_18 K xs N n A cs ss (some 0) (some 49) (nI (6 * i) + 6)) (fx := fun A => f_X11_error N A (some 0) _) (fm := fun A => f_X12_error N A (some 49) _) (o_error N hN m F L T hm R _) (fun m' F' L' T' R' h' => ih0 m' F' L' T' R' h')
  rw [if_neg h18]
  by_cases h19 : xs (6 * i) &&& 31 = 19
  · rw [if_pos h19]
    simp only [X1, X2, Option.bind_some, Nat.add_zero, c0, c4, and_self, if_true, f_L_law_984]
    exact op_go (k := fun A => f_L_law_18 K xs N n A cs ss (some 0) (some 49) (nI (6 * i) + 6)) (fx := fun A => f_X11_sold N A (some 0) _ _) (fm := fun A => f_X12_sold N A (some 49) _ _) (o_sold N hN m F L T hm R _ _) (fun m' F' L' T' R' h' => ih0 m' F' L' T' R' h')
  rw [if_neg h19]
  by_cases h20 : xs (6 * i) &&& 31 = 20
  · rw [if_pos h20]
    simp only [X1, Option.bind_some, Nat.add_zero, c0, c4, and_self, if_true, f_L_law_984]
    exact op_go (k := fun A => f_L_law_18 K xs N n A cs ss (some 0) (some 49) (nI (6 * i) + 6)) (fx := fun A => f_X11_image N A (some 0) _) (fm := fun A => f_X12_image N A (some 49) _) (o_image N hN m F L T hm R _) (fun m' F' L' T' R' h' => ih0 m' F' L' T' R' h')
  rw [if_neg h20]
  by_cases h21 : xs (6 * i) &&& 31 = 21
  · rw [if_pos h21]
    simp only [X1, Option.bind_some, Nat.add_zero, c0, c4, and_self, if_true, f_L_law_984]
    exact op_go (k := fun A => f_L_law_18 K xs N n A cs ss (some 0) (some 49) (nI (6 * i) + 6)) (fx := fun A => f_X11_restore N A (some 0) _) (fm := fun A => f_X12_restore N A (some 49) _) (o_restore N hN m F L T hm R _) (fun m' F' L' T' R' h' => ih0 m' F' L' T' R' h')
  rw [if_neg h21]
  by_cases h22 : xs (6 * i) &&& 31 = 22
  · rw [if_pos h22]
    simp only [X1, Option.bind_some, Nat.add_zero, c0, c4, and_self, if_true, f_L_law_984]
    exact op_go (k := fun A => f_L_law_18 K xs N n A cs ss (some 0) (some 49) (nI (6 * i) + 6)) (fx := fun A => f_X11_kind N A (some 0) _) (fm := fun A => f_X12_kind N A (some 49) _) (o_kind N hN m F L T hm R _) (fun m' F' L' T' R' h' => ih0 m' F' L' T' R' h')
  rw [if_neg h22]
  by_cases h23 : xs (6 * i) &&& 31 = 23
  · rw [if_pos h23]
    simp only [X1, X2, Option.bind_some, Nat.add_zero, c0, c4, and_self, if_true, f_L_law_984]
    exact op_go (k := fun A => f_L_law_18 K xs N n A cs ss (some 0) (some 49) (nI (6 * i) + 6)) (fx := fun A => f_X11_as N A (some 0) _ _) (fm := fun A => f_X12_as N A (some 49) _ _) (o_as N hN m F L T hm R _ _) (fun m' F' L' T' R' h' => ih0 m' F' L' T' R' h')
  rw [if_neg h23]
  by_cases h24 : xs (6 * i) &&& 31 = 24
  · rw [if_pos h24]
    simp only [X1, X2, Option.bind_some, Nat.add_zero, c0, c4, and_self, if_true, f_L_law_984]
    exact op_go (k := fun A => f_L_law_18 K xs N n A cs ss (some 0) (some 49) (nI (6 * i) + 6)) (fx := fun A => f_X11_ask N A (some 0) _ _) (fm := fun A => f_X12_ask N A (some 49) _ _) (o_ask N hN m F L T hm R _ _) (fun m' F' L' T' R' h' => ih0 m' F' L' T' R' h')
  rw [if_neg h24]
  by_cases h25 : xs (6 * i) &&& 31 = 25
  · rw [if_pos h25]
    simp only [X1, Option.bind_some, Nat.add_zero, c0, c4, and_self, if_true, f_L_law_984]
    exact op_go (k := fun A => f_L_law_18 K xs N n A cs ss (some 0) (some 49) (nI (6 * i) + 6)) (fx := fun A => f_X11_trace N A (some 0) _) (fm := fun A => f_X12_trace N A (some 49) _) (o_trace N hN m F L T hm R _) (fun m' F' L' T' R' h' => ih0 m' F' L' T' R' h')
  rw [if_neg h25]
  by_cases h26 : xs (6 * i) &&& 31 = 26
  · rw [if_pos h26]
    simp only [X1, Option.bind_some, Nat.add_zero, c0, c4, and_self, if_true, f_L_law_984]
    exact op_go (k := fun A => f_L_law_18 K xs N n A cs ss (some 0) (some 49) (nI (6 * i) + 6)) (fx := fun A => f_X11_count N A (some 0) _) (fm := fun A => f_X12_count N A (some 49) _) (o_count N hN m F L T hm R _) (fun m' F' L' T' R' h' => ih0 m' F' L' T' R' h')
  rw [if_neg h26]
  by_cases h27 : xs (6 * i) &&& 31 = 27
  · rw [if_pos h27]
    simp only [Option.bind_some, Nat.add_zero, c0, c4, and_self, if_true, f_L_law_984]
    exact op_go (k := fun A => f_L_law_18 K xs N n A cs ss (some 0) (some 49) (nI (6 * i) + 6)) (fx := fun A => f_X11_status N A (some 0) ) (fm := fun A => f_X12_status N A (some 49) ) (o_status N hN m F L T hm R ) (fun m' F' L' T' R' h' => ih0 m' F' L' T' R' h')
  rw [if_neg h27]
  simp only [f_L_law_984]
  exact ih0 m F L T R (by omega)
set_option maxRecDepth 20000 in
theorem law_loop (o_row : ∀ (N : Nat), 5000 ≤ N → ∀ (m : Nat) (F : Nat → Nat → Int32) (L : Nat → Nat → Option Nat) (T : Nat → Nat), m ≤ 3000 → Rel m F L T → ∀ (a b c : Int32), OpOk (fun A => f_X11_row N A (some 0) a b c) (fun A => f_X12_row N A (some 49) a b c) m F L T)
    (o_set : ∀ (N : Nat), 5000 ≤ N → ∀ (m : Nat) (F : Nat → Nat → Int32) (L : Nat → Nat → Option Nat) (T : Nat → Nat), m ≤ 3000 → Rel m F L T → ∀ (a b c : Int32), OpOk (fun A => f_X11_set N A (some 0) a b c) (fun A => f_X12_set N A (some 49) a b c) m F L T)
    (o_copy : ∀ (N : Nat), 5000 ≤ N → ∀ (m : Nat) (F : Nat → Nat → Int32) (L : Nat → Nat → Option Nat) (T : Nat → Nat), m ≤ 3000 → Rel m F L T → ∀ (a b c d e : Int32), OpOk (fun A => f_X11_copy N A (some 0) a b c d e) (fun A => f_X12_copy N A (some 49) a b c d e) m F L T)
    (o_drop : ∀ (N : Nat), 5000 ≤ N → ∀ (m : Nat) (F : Nat → Nat → Int32) (L : Nat → Nat → Option Nat) (T : Nat → Nat), m ≤ 3000 → Rel m F L T → ∀ (a : Int32), OpOk (fun A => f_X11_drop N A (some 0) a) (fun A => f_X12_drop N A (some 49) a) m F L T)
    (o_feed : ∀ (N : Nat), 5000 ≤ N → ∀ (m : Nat) (F : Nat → Nat → Int32) (L : Nat → Nat → Option Nat) (T : Nat → Nat), m ≤ 3000 → Rel m F L T → ∀ (w : Int64) (j : Int32), OpOk (fun A => f_X11_feed N A (some 0) w j) (fun A => f_X12_feed N A (some 49) w j) m F L T)
    (o_port : ∀ (N : Nat), 5000 ≤ N → ∀ (m : Nat) (F : Nat → Nat → Int32) (L : Nat → Nat → Option Nat) (T : Nat → Nat), m ≤ 3000 → Rel m F L T → OpOk (fun A => f_X11_port N A (some 0) ) (fun A => f_X12_port N A (some 49) ) m F L T)
    (o_fault : ∀ (N : Nat), 5000 ≤ N → ∀ (m : Nat) (F : Nat → Nat → Int32) (L : Nat → Nat → Option Nat) (T : Nat → Nat), m ≤ 3000 → Rel m F L T → OpOk (fun A => f_X11_fault N A (some 0) ) (fun A => f_X12_fault N A (some 49) ) m F L T)
    (o_day : ∀ (N : Nat), 5000 ≤ N → ∀ (m : Nat) (F : Nat → Nat → Int32) (L : Nat → Nat → Option Nat) (T : Nat → Nat), m ≤ 3000 → Rel m F L T → ∀ (a : Int32), OpOk (fun A => f_X11_day N A (some 0) a) (fun A => f_X12_day N A (some 49) a) m F L T)
    (o_undo : ∀ (N : Nat), 5000 ≤ N → ∀ (m : Nat) (F : Nat → Nat → Int32) (L : Nat → Nat → Option Nat) (T : Nat → Nat), m ≤ 3000 → Rel m F L T → OpOk (fun A => f_X11_undo N A (some 0) ) (fun A => f_X12_undo N A (some 49) ) m F L T)
    (o_shown : ∀ (N : Nat), 5000 ≤ N → ∀ (m : Nat) (F : Nat → Nat → Int32) (L : Nat → Nat → Option Nat) (T : Nat → Nat), m ≤ 3000 → Rel m F L T → ∀ (a b : Int32), OpOk (fun A => f_X11_shown N A (some 0) a b) (fun A => f_X12_shown N A (some 49) a b) m F L T)
    (o_heavy : ∀ (N : Nat), 5000 ≤ N → ∀ (m : Nat) (F : Nat → Nat → Int32) (L : Nat → Nat → Option Nat) (T : Nat → Nat), m ≤ 3000 → Rel m F L T → ∀ (a b : Int32), OpOk (fun A => f_X11_heavy N A (some 0) a b) (fun A => f_X12_heavy N A (some 49) a b) m F L T)
    (o_next : ∀ (N : Nat), 5000 ≤ N → ∀ (m : Nat) (F : Nat → Nat → Int32) (L : Nat → Nat → Option Nat) (T : Nat → Nat), m ≤ 3000 → Rel m F L T → ∀ (a : Int32), OpOk (fun A => f_X11_next N A (some 0) a) (fun A => f_X12_next N A (some 49) a) m F L T)
    (o_fits : ∀ (N : Nat), 5000 ≤ N → ∀ (m : Nat) (F : Nat → Nat → Int32) (L : Nat → Nat → Option Nat) (T : Nat → Nat), m ≤ 3000 → Rel m F L T → ∀ (a b c : Int32), OpOk (fun A => f_X11_fits N A (some 0) a b c) (fun A => f_X12_fits N A (some 49) a b c) m F L T)
    (o_sure : ∀ (N : Nat), 5000 ≤ N → ∀ (m : Nat) (F : Nat → Nat → Int32) (L : Nat → Nat → Option Nat) (T : Nat → Nat), m ≤ 3000 → Rel m F L T → ∀ (a b : Int32), OpOk (fun A => f_X11_sure N A (some 0) a b) (fun A => f_X12_sure N A (some 49) a b) m F L T)
    (o_gap : ∀ (N : Nat), 5000 ≤ N → ∀ (m : Nat) (F : Nat → Nat → Int32) (L : Nat → Nat → Option Nat) (T : Nat → Nat), m ≤ 3000 → Rel m F L T → ∀ (a b : Int32), OpOk (fun A => f_X11_gap N A (some 0) a b) (fun A => f_X12_gap N A (some 49) a b) m F L T)
    (o_wrong : ∀ (N : Nat), 5000 ≤ N → ∀ (m : Nat) (F : Nat → Nat → Int32) (L : Nat → Nat → Option Nat) (T : Nat → Nat), m ≤ 3000 → Rel m F L T → ∀ (a b : Int32), OpOk (fun A => f_X11_wrong N A (some 0) a b) (fun A => f_X12_wrong N A (some 49) a b) m F L T)
    (o_soon : ∀ (N : Nat), 5000 ≤ N → ∀ (m : Nat) (F : Nat → Nat → Int32) (L : Nat → Nat → Option Nat) (T : Nat → Nat), m ≤ 3000 → Rel m F L T → ∀ (a : Int32), OpOk (fun A => f_X11_soon N A (some 0) a) (fun A => f_X12_soon N A (some 49) a) m F L T)
    (o_laws : ∀ (N : Nat), 5000 ≤ N → ∀ (m : Nat) (F : Nat → Nat → Int32) (L : Nat → Nat → Option Nat) (T : Nat → Nat), m ≤ 3000 → Rel m F L T → ∀ (a : Int32), OpOk (fun A => f_X11_laws N A (some 0) a) (fun A => f_X12_laws N A (some 49) a) m F L T)
    (o_error : ∀ (N : Nat), 5000 ≤ N → ∀ (m : Nat) (F : Nat → Nat → Int32) (L : Nat → Nat → Option Nat) (T : Nat → Nat), m ≤ 3000 → Rel m F L T → ∀ (a : Int32), OpOk (fun A => f_X11_error N A (some 0) a) (fun A => f_X12_error N A (some 49) a) m F L T)
    (o_sold : ∀ (N : Nat), 5000 ≤ N → ∀ (m : Nat) (F : Nat → Nat → Int32) (L : Nat → Nat → Option Nat) (T : Nat → Nat), m ≤ 3000 → Rel m F L T → ∀ (a b : Int32), OpOk (fun A => f_X11_sold N A (some 0) a b) (fun A => f_X12_sold N A (some 49) a b) m F L T)
    (o_image : ∀ (N : Nat), 5000 ≤ N → ∀ (m : Nat) (F : Nat → Nat → Int32) (L : Nat → Nat → Option Nat) (T : Nat → Nat), m ≤ 3000 → Rel m F L T → ∀ (a : Int32), OpOk (fun A => f_X11_image N A (some 0) a) (fun A => f_X12_image N A (some 49) a) m F L T)
    (o_restore : ∀ (N : Nat), 5000 ≤ N → ∀ (m : Nat) (F : Nat → Nat → Int32) (L : Nat → Nat → Option Nat) (T : Nat → Nat), m ≤ 3000 → Rel m F L T → ∀ (a : Int32), OpOk (fun A => f_X11_restore N A (some 0) a) (fun A => f_X12_restore N A (some 49) a) m F L T)
    (o_kind : ∀ (N : Nat), 5000 ≤ N → ∀ (m : Nat) (F : Nat → Nat → Int32) (L : Nat → Nat → Option Nat) (T : Nat → Nat), m ≤ 3000 → Rel m F L T → ∀ (a : Int32), OpOk (fun A => f_X11_kind N A (some 0) a) (fun A => f_X12_kind N A (some 49) a) m F L T)
    (o_as : ∀ (N : Nat), 5000 ≤ N → ∀ (m : Nat) (F : Nat → Nat → Int32) (L : Nat → Nat → Option Nat) (T : Nat → Nat), m ≤ 3000 → Rel m F L T → ∀ (a b : Int32), OpOk (fun A => f_X11_as N A (some 0) a b) (fun A => f_X12_as N A (some 49) a b) m F L T)
    (o_ask : ∀ (N : Nat), 5000 ≤ N → ∀ (m : Nat) (F : Nat → Nat → Int32) (L : Nat → Nat → Option Nat) (T : Nat → Nat), m ≤ 3000 → Rel m F L T → ∀ (a b : Int32), OpOk (fun A => f_X11_ask N A (some 0) a b) (fun A => f_X12_ask N A (some 49) a b) m F L T)
    (o_trace : ∀ (N : Nat), 5000 ≤ N → ∀ (m : Nat) (F : Nat → Nat → Int32) (L : Nat → Nat → Option Nat) (T : Nat → Nat), m ≤ 3000 → Rel m F L T → ∀ (a : Int32), OpOk (fun A => f_X11_trace N A (some 0) a) (fun A => f_X12_trace N A (some 49) a) m F L T)
    (o_count : ∀ (N : Nat), 5000 ≤ N → ∀ (m : Nat) (F : Nat → Nat → Int32) (L : Nat → Nat → Option Nat) (T : Nat → Nat), m ≤ 3000 → Rel m F L T → ∀ (a : Int32), OpOk (fun A => f_X11_count N A (some 0) a) (fun A => f_X12_count N A (some 49) a) m F L T)
    (o_status : ∀ (N : Nat), 5000 ≤ N → ∀ (m : Nat) (F : Nat → Nat → Int32) (L : Nat → Nat → Option Nat) (T : Nat → Nat), m ≤ 3000 → Rel m F L T → OpOk (fun A => f_X11_status N A (some 0) ) (fun A => f_X12_status N A (some 49) ) m F L T)
    {N K : Nat} {xs : Nat → Int32} (hN : 5000 ≤ N) (hK : K ≤ 3072) : ∀ (n i m cs ss : Nat) (F : Nat → Nat → Int32) (L : Nat → Nat → Option Nat) (T : Nat → Nat), 6 * i ≤ K → K < 6 * i + 6 * n → m ≤ 4 * i → cs ≤ 100 + 4 * i → ss ≤ 20000 + 8 * i → Rel m F L T → ∃ res, f_L_law_18 K xs N n (Hp m F L T) cs ss (some 0) (some 49) (nI (6 * i)) = some res := by
  intro n
  induction n with
  | zero => intro i m cs ss F L T h1 h2; omega
  | succ n ih =>
    intro i m cs ss F L T h1 h2 hm hcs hss R
    by_cases hi : 6 * i + 6 ≤ K
    · refine law_step o_row o_set o_copy o_drop o_feed o_port o_fault o_day o_undo o_shown o_heavy o_next o_fits o_sure o_gap o_wrong o_soon o_laws o_error o_sold o_image o_restore o_kind o_as o_ask o_trace o_count o_status hN hK hi (by omega) R (by omega) (by omega) (fun m' F' L' T' cs' ss' R' h3 h4 h5 => ?_)
      have e : nI (6 * i) + 6 = nI (6 * (i + 1)) := nI_add (6 * i) 6
      rw [e]
      exact ih (i + 1) m' cs' ss' F' L' T' (by omega) (by omega) (by omega) (by omega) (by omega) R'
    · rw [f_L_law_18]
      have hlt : Int32.ofNat K - 6 < nI (6 * i) := by
        rcases Nat.lt_or_ge K 6 with q | q
        · have h3 : (Int32.ofNat K - 6).toInt = (K : Int) - 6 := pk_sub_toInt (a := K) (b := 6) (by omega) (by omega)
          rw [Int32.lt_iff_toInt_lt, h3, nI_toInt (by omega)]
          omega
        · have e : Int32.ofNat K - 6 = nI (K - 6) := pk_sub (a := K) (b := 6) q
          rw [e]
          exact nI_lt (by omega) (by omega)
      rw [if_pos hlt]
      refine ⟨(1, Hp m F L T), ?_⟩
      rw [if_pos ⟨by omega, by omega⟩]
      rfl
theorem Rel_0 : Rel 0 Fst Lst Tst := by
  refine ⟨fun r hr => ?_, ⟨0, by omega, rfl, rfl, fun i hi => by omega⟩, ⟨fun _ => 0, ⟨by decide, by decide, by decide, by decide, by decide, fun _ => ⟨rfl, rfl, rfl, rfl⟩, by decide, fun i hi => absurd hi (by simp), fun i hi => absurd hi (by simp)⟩, ⟨fun i _ => rfl, fun i hi => absurd hi (by simp), fun i hi => absurd hi (by simp)⟩, ⟨rfl, rfl, rfl, rfl, rfl, rfl, rfl, fun i hi => absurd hi (by simp), fun i hi => absurd hi (by simp), fun i hi => absurd hi (by simp)⟩, Or.inl rfl⟩, ⟨fun p _ i _ => Or.inl rfl, fun k hk => Or.inl ⟨rfl, ?_⟩⟩, rfl, rfl, ⟨0, by omega, rfl, rfl, fun i hi => by omega⟩⟩
  · match r, hr with
    | 0, _ => exact ⟨Or.inl ⟨rfl, rfl⟩, rfl, ⟨0, by omega, rfl⟩, fun i _ => rfl⟩
    | 1, _ => exact ⟨Or.inl ⟨rfl, rfl⟩, rfl, ⟨0, by omega, rfl⟩, fun i _ => rfl⟩
    | 2, _ => exact ⟨Or.inl ⟨rfl, rfl⟩, rfl, ⟨0, by omega, rfl⟩, fun i _ => rfl⟩
    | 3, _ => exact ⟨Or.inl ⟨rfl, rfl⟩, rfl, ⟨0, by omega, rfl⟩, fun i _ => rfl⟩
    | 4, _ => exact ⟨Or.inl ⟨rfl, rfl⟩, rfl, ⟨0, by omega, rfl⟩, fun i _ => rfl⟩
    | 5, _ => exact ⟨Or.inl ⟨rfl, rfl⟩, rfl, ⟨0, by omega, rfl⟩, fun i _ => rfl⟩
    | 6, _ => exact ⟨Or.inl ⟨rfl, rfl⟩, rfl, ⟨0, by omega, rfl⟩, fun i _ => rfl⟩
    | 7, _ => exact ⟨Or.inl ⟨rfl, rfl⟩, rfl, ⟨0, by omega, rfl⟩, fun i _ => rfl⟩
    | k + 8, h => exact absurd h (by omega)
  · match k, hk with
    | 0, _ => rfl
    | 1, _ => rfl
    | k + 2, h => exact absurd h (by omega)
set_option maxRecDepth 100000 in
theorem pure_of (o_row : ∀ (N : Nat), 5000 ≤ N → ∀ (m : Nat) (F : Nat → Nat → Int32) (L : Nat → Nat → Option Nat) (T : Nat → Nat), m ≤ 3000 → Rel m F L T → ∀ (a b c : Int32), OpOk (fun A => f_X11_row N A (some 0) a b c) (fun A => f_X12_row N A (some 49) a b c) m F L T)
    (o_set : ∀ (N : Nat), 5000 ≤ N → ∀ (m : Nat) (F : Nat → Nat → Int32) (L : Nat → Nat → Option Nat) (T : Nat → Nat), m ≤ 3000 → Rel m F L T → ∀ (a b c : Int32), OpOk (fun A => f_X11_set N A (some 0) a b c) (fun A => f_X12_set N A (some 49) a b c) m F L T)
    (o_copy : ∀ (N : Nat), 5000 ≤ N → ∀ (m : Nat) (F : Nat → Nat → Int32) (L : Nat → Nat → Option Nat) (T : Nat → Nat), m ≤ 3000 → Rel m F L T → ∀ (a b c d e : Int32), OpOk (fun A => f_X11_copy N A (some 0) a b c d e) (fun A => f_X12_copy N A (some 49) a b c d e) m F L T)
    (o_drop : ∀ (N : Nat), 5000 ≤ N → ∀ (m : Nat) (F : Nat → Nat → Int32) (L : Nat → Nat → Option Nat) (T : Nat → Nat), m ≤ 3000 → Rel m F L T → ∀ (a : Int32), OpOk (fun A => f_X11_drop N A (some 0) a) (fun A => f_X12_drop N A (some 49) a) m F L T)
    (o_feed : ∀ (N : Nat), 5000 ≤ N → ∀ (m : Nat) (F : Nat → Nat → Int32) (L : Nat → Nat → Option Nat) (T : Nat → Nat), m ≤ 3000 → Rel m F L T → ∀ (w : Int64) (j : Int32), OpOk (fun A => f_X11_feed N A (some 0) w j) (fun A => f_X12_feed N A (some 49) w j) m F L T)
    (o_port : ∀ (N : Nat), 5000 ≤ N → ∀ (m : Nat) (F : Nat → Nat → Int32) (L : Nat → Nat → Option Nat) (T : Nat → Nat), m ≤ 3000 → Rel m F L T → OpOk (fun A => f_X11_port N A (some 0) ) (fun A => f_X12_port N A (some 49) ) m F L T)
    (o_fault : ∀ (N : Nat), 5000 ≤ N → ∀ (m : Nat) (F : Nat → Nat → Int32) (L : Nat → Nat → Option Nat) (T : Nat → Nat), m ≤ 3000 → Rel m F L T → OpOk (fun A => f_X11_fault N A (some 0) ) (fun A => f_X12_fault N A (some 49) ) m F L T)
    (o_day : ∀ (N : Nat), 5000 ≤ N → ∀ (m : Nat) (F : Nat → Nat → Int32) (L : Nat → Nat → Option Nat) (T : Nat → Nat), m ≤ 3000 → Rel m F L T → ∀ (a : Int32), OpOk (fun A => f_X11_day N A (some 0) a) (fun A => f_X12_day N A (some 49) a) m F L T)
    (o_undo : ∀ (N : Nat), 5000 ≤ N → ∀ (m : Nat) (F : Nat → Nat → Int32) (L : Nat → Nat → Option Nat) (T : Nat → Nat), m ≤ 3000 → Rel m F L T → OpOk (fun A => f_X11_undo N A (some 0) ) (fun A => f_X12_undo N A (some 49) ) m F L T)
    (o_shown : ∀ (N : Nat), 5000 ≤ N → ∀ (m : Nat) (F : Nat → Nat → Int32) (L : Nat → Nat → Option Nat) (T : Nat → Nat), m ≤ 3000 → Rel m F L T → ∀ (a b : Int32), OpOk (fun A => f_X11_shown N A (some 0) a b) (fun A => f_X12_shown N A (some 49) a b) m F L T)
    (o_heavy : ∀ (N : Nat), 5000 ≤ N → ∀ (m : Nat) (F : Nat → Nat → Int32) (L : Nat → Nat → Option Nat) (T : Nat → Nat), m ≤ 3000 → Rel m F L T → ∀ (a b : Int32), OpOk (fun A => f_X11_heavy N A (some 0) a b) (fun A => f_X12_heavy N A (some 49) a b) m F L T)
    (o_next : ∀ (N : Nat), 5000 ≤ N → ∀ (m : Nat) (F : Nat → Nat → Int32) (L : Nat → Nat → Option Nat) (T : Nat → Nat), m ≤ 3000 → Rel m F L T → ∀ (a : Int32), OpOk (fun A => f_X11_next N A (some 0) a) (fun A => f_X12_next N A (some 49) a) m F L T)
    (o_fits : ∀ (N : Nat), 5000 ≤ N → ∀ (m : Nat) (F : Nat → Nat → Int32) (L : Nat → Nat → Option Nat) (T : Nat → Nat), m ≤ 3000 → Rel m F L T → ∀ (a b c : Int32), OpOk (fun A => f_X11_fits N A (some 0) a b c) (fun A => f_X12_fits N A (some 49) a b c) m F L T)
    (o_sure : ∀ (N : Nat), 5000 ≤ N → ∀ (m : Nat) (F : Nat → Nat → Int32) (L : Nat → Nat → Option Nat) (T : Nat → Nat), m ≤ 3000 → Rel m F L T → ∀ (a b : Int32), OpOk (fun A => f_X11_sure N A (some 0) a b) (fun A => f_X12_sure N A (some 49) a b) m F L T)
    (o_gap : ∀ (N : Nat), 5000 ≤ N → ∀ (m : Nat) (F : Nat → Nat → Int32) (L : Nat → Nat → Option Nat) (T : Nat → Nat), m ≤ 3000 → Rel m F L T → ∀ (a b : Int32), OpOk (fun A => f_X11_gap N A (some 0) a b) (fun A => f_X12_gap N A (some 49) a b) m F L T)
    (o_wrong : ∀ (N : Nat), 5000 ≤ N → ∀ (m : Nat) (F : Nat → Nat → Int32) (L : Nat → Nat → Option Nat) (T : Nat → Nat), m ≤ 3000 → Rel m F L T → ∀ (a b : Int32), OpOk (fun A => f_X11_wrong N A (some 0) a b) (fun A => f_X12_wrong N A (some 49) a b) m F L T)
    (o_soon : ∀ (N : Nat), 5000 ≤ N → ∀ (m : Nat) (F : Nat → Nat → Int32) (L : Nat → Nat → Option Nat) (T : Nat → Nat), m ≤ 3000 → Rel m F L T → ∀ (a : Int32), OpOk (fun A => f_X11_soon N A (some 0) a) (fun A => f_X12_soon N A (some 49) a) m F L T)
    (o_laws : ∀ (N : Nat), 5000 ≤ N → ∀ (m : Nat) (F : Nat → Nat → Int32) (L : Nat → Nat → Option Nat) (T : Nat → Nat), m ≤ 3000 → Rel m F L T → ∀ (a : Int32), OpOk (fun A => f_X11_laws N A (some 0) a) (fun A => f_X12_laws N A (some 49) a) m F L T)
    (o_error : ∀ (N : Nat), 5000 ≤ N → ∀ (m : Nat) (F : Nat → Nat → Int32) (L : Nat → Nat → Option Nat) (T : Nat → Nat), m ≤ 3000 → Rel m F L T → ∀ (a : Int32), OpOk (fun A => f_X11_error N A (some 0) a) (fun A => f_X12_error N A (some 49) a) m F L T)
    (o_sold : ∀ (N : Nat), 5000 ≤ N → ∀ (m : Nat) (F : Nat → Nat → Int32) (L : Nat → Nat → Option Nat) (T : Nat → Nat), m ≤ 3000 → Rel m F L T → ∀ (a b : Int32), OpOk (fun A => f_X11_sold N A (some 0) a b) (fun A => f_X12_sold N A (some 49) a b) m F L T)
    (o_image : ∀ (N : Nat), 5000 ≤ N → ∀ (m : Nat) (F : Nat → Nat → Int32) (L : Nat → Nat → Option Nat) (T : Nat → Nat), m ≤ 3000 → Rel m F L T → ∀ (a : Int32), OpOk (fun A => f_X11_image N A (some 0) a) (fun A => f_X12_image N A (some 49) a) m F L T)
    (o_restore : ∀ (N : Nat), 5000 ≤ N → ∀ (m : Nat) (F : Nat → Nat → Int32) (L : Nat → Nat → Option Nat) (T : Nat → Nat), m ≤ 3000 → Rel m F L T → ∀ (a : Int32), OpOk (fun A => f_X11_restore N A (some 0) a) (fun A => f_X12_restore N A (some 49) a) m F L T)
    (o_kind : ∀ (N : Nat), 5000 ≤ N → ∀ (m : Nat) (F : Nat → Nat → Int32) (L : Nat → Nat → Option Nat) (T : Nat → Nat), m ≤ 3000 → Rel m F L T → ∀ (a : Int32), OpOk (fun A => f_X11_kind N A (some 0) a) (fun A => f_X12_kind N A (some 49) a) m F L T)
    (o_as : ∀ (N : Nat), 5000 ≤ N → ∀ (m : Nat) (F : Nat → Nat → Int32) (L : Nat → Nat → Option Nat) (T : Nat → Nat), m ≤ 3000 → Rel m F L T → ∀ (a b : Int32), OpOk (fun A => f_X11_as N A (some 0) a b) (fun A => f_X12_as N A (some 49) a b) m F L T)
    (o_ask : ∀ (N : Nat), 5000 ≤ N → ∀ (m : Nat) (F : Nat → Nat → Int32) (L : Nat → Nat → Option Nat) (T : Nat → Nat), m ≤ 3000 → Rel m F L T → ∀ (a b : Int32), OpOk (fun A => f_X11_ask N A (some 0) a b) (fun A => f_X12_ask N A (some 49) a b) m F L T)
    (o_trace : ∀ (N : Nat), 5000 ≤ N → ∀ (m : Nat) (F : Nat → Nat → Int32) (L : Nat → Nat → Option Nat) (T : Nat → Nat), m ≤ 3000 → Rel m F L T → ∀ (a : Int32), OpOk (fun A => f_X11_trace N A (some 0) a) (fun A => f_X12_trace N A (some 49) a) m F L T)
    (o_count : ∀ (N : Nat), 5000 ≤ N → ∀ (m : Nat) (F : Nat → Nat → Int32) (L : Nat → Nat → Option Nat) (T : Nat → Nat), m ≤ 3000 → Rel m F L T → ∀ (a : Int32), OpOk (fun A => f_X11_count N A (some 0) a) (fun A => f_X12_count N A (some 49) a) m F L T)
    (o_status : ∀ (N : Nat), 5000 ≤ N → ∀ (m : Nat) (F : Nat → Nat → Int32) (L : Nat → Nat → Option Nat) (T : Nat → Nat), m ≤ 3000 → Rel m F L T → OpOk (fun A => f_X11_status N A (some 0) ) (fun A => f_X12_status N A (some 49) ) m F L T) (K : Nat) (xs : Nat → Int32) (hK : K ≤ 3072) : ∃ (N : Nat) (res : Int32 × hP), f_L_law_0 K xs N [] 0 0 = some res := by
  refine ⟨4980 + 20, ?_⟩
  obtain ⟨res, hres⟩ := law_loop o_row o_set o_copy o_drop o_feed o_port o_fault o_day o_undo o_shown o_heavy o_next o_fits o_sure o_gap o_wrong o_soon o_laws o_error o_sold o_image o_restore o_kind o_as o_ask o_trace o_count o_status (N := 4980 + 20) (K := K) (xs := xs) (by omega) hK (4980 + 20) 0 0 62 13548 Fst Lst Tst (by omega) (by omega) (by omega) (by omega) (by omega) Rel_0
  refine ⟨res, ?_⟩
  exact hres
theorem pure_all (L : Nat) (xs : Nat → Int32) (hL : L ≤ 3072) : ∃ (N : Nat) (res : Int32 × hP), f_L_law_0 L xs N [] 0 0 = some res := pure_of o_row o_set o_copy o_drop o_feed o_port o_fault o_day o_undo o_shown o_heavy o_next o_fits o_sure o_gap o_wrong o_soon o_laws o_error o_sold o_image o_restore o_kind o_as o_ask o_trace o_count o_status L xs hL
