/-! PORT, the class's words and numbers -/
def q_wd : List (List Nat) := [[108, 97, 119], [116, 104, 105, 110, 103], [115, 97, 108, 116], [102, 105, 115, 104], [119, 111, 111, 108], [115, 116, 111, 110, 101], [119, 104, 97, 108, 101], [100, 97, 121]]
def q_wl (i : Nat) : Nat := (q_wd.getD i []).length
def q_wc (i j : Nat) : Nat := (q_wd.getD i []).getD j 0
def q_isW (B : Nat → Nat) (n p i : Nat) : Bool := decide (q_K B n p = 1 ∧ q_E B n p - q_S B n p = q_wl i ∧ ∀ j, j < q_wl i → B (q_S B n p + j) = q_wc i j)
theorem q_wl_b : ∀ i, i < 8 → q_wl i ≤ 5 ∧ g_len.getD i 0 = q_wl i ∧ (Int32.ofNat (g_len.getD i 0)) >>> ((0 : Int32) &&& 31) = nI (q_wl i) := by decide +kernel
theorem q_wc_b : ∀ i, i < 8 → ∀ j, j < q_wl i → q_wc i j < 128 ∧ 97 ≤ q_wc i j ∧ (((g_byt.getD i []).getD j 0 &&& (255 : Int32)).toUInt32 % 65536).toInt32 = nI (q_wc i j) := by decide +kernel
theorem sB_eq : ∀ b, b < 256 → ∀ c, c < 128 → (sB b = nI c ↔ b = c) := by decide +kernel
theorem X6_len {N : Nat} {A : hP} {i : Nat} (hi : i < 8) : f_J0_length_8abf5 N A (some (1000000 + i)) = some (nI (q_wl i), A) := by
  have h1 : (1000000 ≤ 1000000 + i ∧ 1000000 + i < 1000008) = True := eq_true ⟨by omega, by omega⟩
  have h2 : (1000100 ≤ 1000000 + i + 100 ∧ 1000000 + i + 100 < 1000108) = True := eq_true ⟨by omega, by omega⟩
  have h3 : 1000000 + i + 100 - 1000100 = i := by omega
  have h4 : narrow .byte (.int (0 : Int32)) = .int 0 := rfl
  simp only [f_J0_length_8abf5, f_J0_length_8abf5_0, f_J0_coder_7d493, f_J0_coder_7d493_0, f_J0_coder_7d493_14, oSv, oVn, oSx, oSk, h1, h2, h3, h4, (q_wl_b i hi).2.2, gI_0, gI_2, gI_4, gI_9, gI_15, gI_21, gI_49, gP_0, gP_2, gP_4, gP_9, gP_15, gP_21, gP_49, gR_0, gR_2, gR_4, gR_9, gR_15, gR_21, gR_49, gL_53, gL_54, oPz_0, oPz_1, Option.bind_some, c10, c01, cm1, c00, if_true, if_false, ne_eq, not_true_eq_false, not_false_eq_true]
theorem X6_chr {N : Nat} {A : hP} {i j : Nat} (hi : i < 8) (hj : j < q_wl i) : f_J0_charAt_5068e N A (some (1000000 + i)) (nI j) = some (nI (q_wc i j), A) := by
  have h1 : (1000000 ≤ 1000000 + i ∧ 1000000 + i < 1000008) = True := eq_true ⟨by omega, by omega⟩
  have h2 : (1000100 ≤ 1000000 + i + 100 ∧ 1000000 + i + 100 < 1000108) = True := eq_true ⟨by omega, by omega⟩
  have h3 : 1000000 + i + 100 - 1000100 = i := by omega
  obtain ⟨l1, l2, -⟩ := q_wl_b i hi
  obtain ⟨c1, -, c2⟩ := q_wc_b i hi j hj
  have h4 : (nI j < 0) = False := eq_false (nI_pos (by omega))
  have h5 : (nI j < Int32.ofNat (q_wl i)) = True := eq_true (nI_lt hj (by omega))
  have h6 : (nI j).toNatClampNeg = j := nI_clamp (by omega)
  have h7 : (¬ (False ∨ q_wl i ≤ j)) = True := eq_true (fun q => by rcases q with q | q; exact q; omega)
  have h8 := (pk_charN (q := q_wc i j) (by omega)).1
  simp only [f_J0_charAt_5068e, f_J0_charAt_5068e_0, f_J0_isLatin1_aae02, f_J0_isLatin1_aae02_0, f_J0_isLatin1_aae02_18, f_J1_charAt_3b067, f_J1_charAt_3b067_0, f_J0_checkIndex_df160, f_J0_checkIndex_df160_0, f_J3_checkIndex_8e157, f_J3_checkIndex_8e157_0, oSv, oVn, oVa, oSx, oSk, h1, h2, h3, l2, h4, h5, h6, h7, c2, h8, true_and, or_true, gI_0, gI_2, gI_4, gI_9, gI_15, gI_21, gI_49, gP_0, gP_2, gP_4, gP_9, gP_15, gP_21, gP_49, gR_0, gR_2, gR_4, gR_9, gR_15, gR_21, gR_49, gL_53, gL_54, oPz_0, oPz_1, Option.bind_some, c10, c01, cm1, c00, if_true, if_false, ne_eq, not_true_eq_false, not_false_eq_true]
section CW
variable {N m n : Nat} {B : Nat → Nat} {L : Nat → Nat → Option Nat} {T : Nat → Nat} {F : Nat → Nat → Int32} {p : Nat}
theorem X6_isW_l {i s : Nat} (hi : i < 8) (cb : q_CB n B F) (hs : s + q_wl i ≤ n) (h4 : F 2 4 = nI (s + q_wl i)) (h5 : F 2 5 = nI s) : ∀ (c M j : Nat), j + c = q_wl i → c < M → f_X6_isWord_31 N M (Hp m F L T) (some 2) (some (1000000 + i)) (nI (s + j)) = some (if (∀ k, k < q_wl i → j ≤ k → B (s + k) = q_wc i k) then 1 else 0, Hp m F L T) := by
  have c0 := cb.1
  intro c
  induction c with
  | zero =>
    intro M j hj hM
    obtain ⟨M, rfl⟩ : ∃ j, M = j + 1 := ⟨M - 1, by omega⟩
    have e : nI (s + q_wl i) ≤ nI (s + j) := nI_le (by omega) (by omega)
    rw [if_pos (fun k h1 h2 => by omega), f_X6_isWord_31]
    simp only [h4, e, or_true, gI_0, gI_2, gI_4, gI_9, gI_15, gI_21, gI_49, gP_0, gP_2, gP_4, gP_9, gP_15, gP_21, gP_49, gR_0, gR_2, gR_4, gR_9, gR_15, gR_21, gR_49, gL_53, gL_54, oPz_0, oPz_1, Option.bind_some, c10, c01, cm1, c00, if_true, if_false, ne_eq, not_true_eq_false, not_false_eq_true]
  | succ c ih =>
    intro M j hj hM
    obtain ⟨M, rfl⟩ : ∃ j, M = j + 1 := ⟨M - 1, by omega⟩
    have e : ¬ nI (s + q_wl i) ≤ nI (s + j) := nI_ge (by omega) (by omega)
    obtain ⟨b1, b2⟩ := cb.2.2 (s + j) (by omega)
    have e1 : nI (s + j) - nI s = nI j := by rw [pk_sub (by omega)]; congr 1; omega
    have e2 : oSx (some (1000000 + i)) = some () := if_pos ⟨by omega, by omega⟩
    have e3 := sB_eq (B (s + j)) b1 (q_wc i j) (q_wc_b i hi j (by omega)).1
    rw [f_X6_isWord_31]
    simp only [h4, h5, e, e1, e2, (gN_3 (show s + j < 400 by omega)).1, b2, X6_chr hi (show j < q_wl i by omega), e3, nI_1, true_or, gI_0, gI_2, gI_4, gI_9, gI_15, gI_21, gI_49, gP_0, gP_2, gP_4, gP_9, gP_15, gP_21, gP_49, gR_0, gR_2, gR_4, gR_9, gR_15, gR_21, gR_49, gL_53, gL_54, oPz_0, oPz_1, Option.bind_some, c10, c01, cm1, c00, if_true, if_false, ne_eq, not_true_eq_false, not_false_eq_true]
    by_cases hq : B (s + j) = q_wc i j
    · rw [if_pos hq, show s + j + 1 = s + (j + 1) by omega, ih M (j + 1) (by omega) (by omega)]
      congr 3
      apply propext
      constructor
      · intro h k h1 h2
        by_cases hk : k = j
        · rw [hk]; exact hq
        · exact h k h1 (by omega)
      · intro h k h1 h2
        exact h k h1 (by omega)
    · rw [if_neg hq, if_neg (fun h => hq (h j (by omega) (Nat.le_refl _)))]
theorem X6_isW {i : Nat} (hN : 5000 ≤ N) (hi : i < 8) (cb : q_CB n B F) (ct : q_CT n B F p) (hp : p ≤ n) : f_X6_isWord N (Hp m F L T) (some 2) (some (1000000 + i)) = some (if q_isW B n p i = true then 1 else 0, Hp m F L T) := by
  have c0 := cb.1
  obtain ⟨t4, t5, t6⟩ := ct
  obtain ⟨b1, b2⟩ := q_E_b (B := B) hp
  have k1 : q_K B n p ≤ 4 := q_K_le
  have l1 := (q_wl_b i hi).1
  unfold q_isW
  by_cases hk : q_K B n p = 1
  · have e6 : F 2 6 = 1 := by rw [t6, hk]; rfl
    by_cases hl : q_E B n p - q_S B n p = q_wl i
    · have ee : q_E B n p = q_S B n p + q_wl i := by omega
      have e1 : nI (q_E B n p) - nI (q_S B n p) = nI (q_wl i) := by rw [pk_sub b1, hl]
      have e2 : oSx (some (1000000 + i)) = some () := if_pos ⟨by omega, by omega⟩
      have r := X6_isW_l (N := N) (m := m) (L := L) (T := T) (i := i) (s := q_S B n p) hi cb (by omega) (by rw [t4, ee]) t5 (q_wl i) N 0 (by omega) (by omega)
      rw [Nat.add_zero] at r
      simp only [f_X6_isWord, f_X6_isWord_0, e6, t4, t5, e1, e2, X6_len hi, r, gI_0, gI_2, gI_4, gI_9, gI_15, gI_21, gI_49, gP_0, gP_2, gP_4, gP_9, gP_15, gP_21, gP_49, gR_0, gR_2, gR_4, gR_9, gR_15, gR_21, gR_49, gL_53, gL_54, oPz_0, oPz_1, Option.bind_some, c10, c01, cm1, c00, if_true, if_false, ne_eq, not_true_eq_false, not_false_eq_true]
      congr 3
      simp [hk, hl]
    · have e1 : ¬ nI (q_E B n p) - nI (q_S B n p) = nI (q_wl i) := by
        rw [pk_sub b1]
        exact fun q => hl ((nI_eq (by omega) (by omega)).mp q)
      have e2 : oSx (some (1000000 + i)) = some () := if_pos ⟨by omega, by omega⟩
      rw [if_neg (by simp [hl])]
      simp only [f_X6_isWord, f_X6_isWord_0, f_X6_isWord_24, e6, t4, t5, e1, e2, X6_len hi, true_or, gI_0, gI_2, gI_4, gI_9, gI_15, gI_21, gI_49, gP_0, gP_2, gP_4, gP_9, gP_15, gP_21, gP_49, gR_0, gR_2, gR_4, gR_9, gR_15, gR_21, gR_49, gL_53, gL_54, oPz_0, oPz_1, Option.bind_some, c10, c01, cm1, c00, if_true, if_false, ne_eq, not_true_eq_false, not_false_eq_true]
  · have e6 : ¬ F 2 6 = 1 := by
      rw [t6]
      exact fun q => hk ((nI_eq (b := 1) (by omega) (by omega)).mp q)
    rw [if_neg (by simp [hk])]
    simp only [f_X6_isWord, f_X6_isWord_0, f_X6_isWord_24, e6, true_or, gI_0, gI_2, gI_4, gI_9, gI_15, gI_21, gI_49, gP_0, gP_2, gP_4, gP_9, gP_15, gP_21, gP_49, gR_0, gR_2, gR_4, gR_9, gR_15, gR_21, gR_49, gL_53, gL_54, oPz_0, oPz_1, Option.bind_some, c10, c01, cm1, c00, if_true, if_false, ne_eq, not_true_eq_false, not_false_eq_true]
/-- fail -/
theorem X6_fail {s : Nat} {x : Int32} (h5 : F 2 5 = nI s) : ∃ G, f_X6_fail N (Hp m F L T) (some 2) x = some (0, Hp m G L T) ∧ q_C2 F G ∧ G 2 2 = x ∧ G 2 3 = nI s := by
  have e5 : up2 F 2 2 x 2 5 = nI s := by simp (disch := omega) only [up2_ne, up2_o, up2_s]; exact h5
  refine ⟨up2 (up2 F 2 2 x) 2 3 (nI s), ?_, (q_C2.up (by decide)).trans (q_C2.up (by decide)), ?_, ?_⟩
  · simp only [f_X6_fail, f_X6_fail_0, e5, true_or, gI_0, gI_2, gI_4, gI_9, gI_15, gI_21, gI_49, gP_0, gP_2, gP_4, gP_9, gP_15, gP_21, gP_49, gR_0, gR_2, gR_4, gR_9, gR_15, gR_21, gR_49, gL_53, gL_54, oPz_0, oPz_1, Option.bind_some, c10, c01, cm1, c00, if_true, if_false, ne_eq, not_true_eq_false, not_false_eq_true]
  · simp (disch := omega) only [up2_ne, up2_o, up2_s]
  · simp (disch := omega) only [up2_ne, up2_o, up2_s]
def q_nv (b : Nat → Nat) (s : Nat) : Nat → Nat
  | 0 => 0
  | k + 1 => q_nv b s k * 10 + (b (s + k) - 48)
theorem q_nv_b {s e : Nat} (h : ∀ i, s ≤ i → i < e → q_fg (B i) = true) : ∀ k, s + k ≤ e → q_nv B s k < 10 ^ k
  | 0, _ => by rw [q_nv]; decide
  | k + 1, hk => by
    have h1 := q_nv_b h k (by omega)
    have h2 := q_fg_y (h (s + k) (by omega) (by omega))
    rw [q_nv, Nat.pow_succ]
    omega
theorem X6_num_l {s e : Nat} (cb : q_CB n B F) (he : e ≤ n) (h4 : F 2 4 = nI e) (hf : ∀ i, s ≤ i → i < e → q_fg (B i) = true) : ∀ (c M j : Nat), s + j + c = e → c < M → f_X6_numberRead_7 N M (Hp m F L T) (some 2) (nI (q_nv B s j)) (nI (s + j)) = some (nI (q_nv B s (j + c)), Hp m F L T) := by
  have c0 := cb.1
  intro c
  induction c with
  | zero =>
    intro M j hj hM
    obtain ⟨M, rfl⟩ : ∃ j, M = j + 1 := ⟨M - 1, by omega⟩
    have e : nI e ≤ nI (s + j) := nI_le (by omega) (by omega)
    rw [f_X6_numberRead_7]
    simp only [h4, e, Nat.add_zero, gI_0, gI_2, gI_4, gI_9, gI_15, gI_21, gI_49, gP_0, gP_2, gP_4, gP_9, gP_15, gP_21, gP_49, gR_0, gR_2, gR_4, gR_9, gR_15, gR_21, gR_49, gL_53, gL_54, oPz_0, oPz_1, Option.bind_some, c10, c01, cm1, c00, if_true, if_false, ne_eq, not_true_eq_false, not_false_eq_true]
  | succ c ih =>
    intro M j hj hM
    obtain ⟨M, rfl⟩ : ∃ j, M = j + 1 := ⟨M - 1, by omega⟩
    have e : ¬ nI e ≤ nI (s + j) := nI_ge (by omega) (by omega)
    obtain ⟨b1, b2⟩ := cb.2.2 (s + j) (by omega)
    have b3 := q_fg_y (hf (s + j) (by omega) (by omega))
    have b4 : sB (B (s + j)) = nI (B (s + j)) := fa_byte_small (by omega)
    have e2 : nI (q_nv B s j) * 10 + nI (B (s + j)) - 48 = nI (q_nv B s (j + 1)) := by
      rw [show (10 : Int32) = nI 10 from rfl, pk_mul, nI_add, show (48 : Int32) = nI 48 from rfl, pk_sub (by omega), q_nv]
      congr 1
      omega
    rw [f_X6_numberRead_7]
    simp only [h4, e, (gN_3 (show s + j < 400 by omega)).1, b2, b4, e2, nI_1, gI_0, gI_2, gI_4, gI_9, gI_15, gI_21, gI_49, gP_0, gP_2, gP_4, gP_9, gP_15, gP_21, gP_49, gR_0, gR_2, gR_4, gR_9, gR_15, gR_21, gR_49, gL_53, gL_54, oPz_0, oPz_1, Option.bind_some, c10, c01, cm1, c00, if_true, if_false, ne_eq, not_true_eq_false, not_false_eq_true]
    rw [show s + j + 1 = s + (j + 1) by omega, ih M (j + 1) (by omega) (by omega), show j + 1 + c = j + (c + 1) by omega]
def q_val (B : Nat → Nat) (n p : Nat) : Nat := q_nv B (q_S B n p) (q_E B n p - q_S B n p)
theorem q_val_b (hp : p ≤ n) (hk : q_K B n p = 2) : q_val B n p < 1000 := by
  obtain ⟨h1, h2⟩ := q_K2 hp hk
  have h3 := q_E_b (B := B) hp
  have h4 := q_nv_b h2 (q_E B n p - q_S B n p) (by omega)
  have h5 : 10 ^ (q_E B n p - q_S B n p) ≤ 10 ^ 3 := Nat.pow_le_pow_right (by decide) h1
  unfold q_val
  omega
theorem X6_num (hN : 5000 ≤ N) (cb : q_CB n B F) (ct : q_CT n B F p) (hp : p ≤ n) (hk : q_K B n p = 2) : f_X6_numberRead N (Hp m F L T) (some 2) = some (nI (q_val B n p), Hp m F L T) := by
  have c0 := cb.1
  obtain ⟨t4, t5, t6⟩ := ct
  obtain ⟨h1, h2⟩ := q_K2 hp hk
  have h3 := q_E_b (B := B) hp
  have r := X6_num_l (N := N) (m := m) (L := L) (T := T) (s := q_S B n p) (e := q_E B n p) cb h3.2 t4 h2 (q_E B n p - q_S B n p) N 0 (by omega) (by omega)
  rw [Nat.add_zero, Nat.zero_add] at r
  simp only [f_X6_numberRead, f_X6_numberRead_0, t5, gI_0, gI_2, gI_4, gI_9, gI_15, gI_21, gI_49, gP_0, gP_2, gP_4, gP_9, gP_15, gP_21, gP_49, gR_0, gR_2, gR_4, gR_9, gR_15, gR_21, gR_49, gL_53, gL_54, oPz_0, oPz_1, Option.bind_some, c10, c01, cm1, c00, if_true, if_false, ne_eq, not_true_eq_false, not_false_eq_true]
  exact r
/-- what a number that must stand at p gives: a fault's number, or its value -/
def q_nm (B : Nat → Nat) (n lo hi p : Nat) : Nat ⊕ Nat := if q_K B n p = 2 then (if lo ≤ q_val B n p ∧ q_val B n p ≤ hi then .inr (q_val B n p) else .inl 2) else .inl 1
theorem q_nm_r {lo hi v : Nat} (h : q_nm B n lo hi p = .inr v) : q_K B n p = 2 ∧ v = q_val B n p ∧ lo ≤ v ∧ v ≤ hi := by
  unfold q_nm at h
  split at h
  · rename_i h1
    split at h
    · rename_i h2
      have := Sum.inr.inj h
      subst this
      exact ⟨h1, rfl, h2⟩
    · cases h
  · cases h
theorem q_nm_l {lo hi k : Nat} (h : q_nm B n lo hi p = .inl k) : (q_K B n p ≠ 2 ∧ k = 1) ∨ (q_K B n p = 2 ∧ ¬ (lo ≤ q_val B n p ∧ q_val B n p ≤ hi) ∧ k = 2) := by
  unfold q_nm at h
  split at h
  · rename_i h1
    split at h
    · cases h
    · rename_i h2
      exact Or.inr ⟨h1, h2, (Sum.inl.inj h).symm⟩
  · rename_i h1
    exact Or.inl ⟨h1, (Sum.inl.inj h).symm⟩
theorem q_CT.mv {G : Nat → Nat → Int32} (ct : q_CT n B F p) (e : ∀ k, 4 ≤ k → k ≤ 6 → G 2 k = F 2 k) : q_CT n B G p := by
  unfold q_CT
  rw [e 4 (by decide) (by decide), e 5 (by decide) (by decide), e 6 (by decide) (by decide)]
  exact ct
theorem X6_tN_y {lo hi v : Nat} (hN : 5000 ≤ N) (cb : q_CB n B F) (ct : q_CT n B F p) (hp : p ≤ n) (hlo : lo < 2 ^ 30) (hhi : hi < 2 ^ 30) (h : q_nm B n lo hi p = .inr v) : ∃ G, f_X6_takeNumber N (Hp m F L T) (some 2) (nI lo) (nI hi) = some (1, Hp m G L T) ∧ q_C2 F G ∧ q_CT n B G (q_E B n p) ∧ G 2 7 = nI v := by
  obtain ⟨k1, rfl, k2, k3⟩ := q_nm_r h
  have vb := q_val_b hp k1
  have e6 : F 2 6 = 2 := by rw [ct.2.2, k1]; rfl
  have c1 : q_C2 F (up2 F 2 7 (nI (q_val B n p))) := q_C2.up (by decide)
  obtain ⟨G, g1, g2, g3, g4⟩ := X6_adv (N := N) (m := m) (L := L) (T := T) (F := up2 F 2 7 (nI (q_val B n p))) (p := q_E B n p) hN (cb.mv c1) (by simp (disch := omega) only [up2_ne, up2_o, up2_s]; exact ct.1) (q_E_b hp).2
  have e1 : ¬ nI (q_val B n p) < nI lo := nI_nlt k2 (by omega)
  have e2 : nI (q_val B n p) ≤ nI hi := nI_le k3 (by omega)
  refine ⟨G, ?_, c1.trans g3, g2, by rw [g4 7 (by decide) (by decide) (by decide), up2_s]⟩
  simp only [f_X6_takeNumber, f_X6_takeNumber_0, e6, X6_num hN cb ct hp k1, up2_s, e1, e2, g1, or_true, gI_0, gI_2, gI_4, gI_9, gI_15, gI_21, gI_49, gP_0, gP_2, gP_4, gP_9, gP_15, gP_21, gP_49, gR_0, gR_2, gR_4, gR_9, gR_15, gR_21, gR_49, gL_53, gL_54, oPz_0, oPz_1, Option.bind_some, c10, c01, cm1, c00, if_true, if_false, ne_eq, not_true_eq_false, not_false_eq_true]
theorem X6_tN_n {lo hi k : Nat} (hN : 5000 ≤ N) (cb : q_CB n B F) (ct : q_CT n B F p) (hp : p ≤ n) (hlo : lo < 2 ^ 30) (hhi : hi < 2 ^ 30) (h : q_nm B n lo hi p = .inl k) : ∃ G, f_X6_takeNumber N (Hp m F L T) (some 2) (nI lo) (nI hi) = some (0, Hp m G L T) ∧ q_C2 F G ∧ G 2 2 = nI k ∧ G 2 3 = nI (q_S B n p) := by
  rcases q_nm_l h with ⟨k1, rfl⟩ | ⟨k1, k2, rfl⟩
  · have hk4 : q_K B n p ≤ 4 := q_K_le
    have e6 : ¬ F 2 6 = 2 := by
      rw [ct.2.2]
      exact fun q => k1 ((nI_eq (b := 2) (by omega) (by omega)).mp q)
    obtain ⟨G, g1, g2, g3, g4⟩ := X6_fail (N := N) (m := m) (L := L) (T := T) (x := 1) ct.2.1
    refine ⟨G, ?_, g2, g3, g4⟩
    simp only [f_X6_takeNumber, f_X6_takeNumber_0, e6, g1, true_or, gI_0, gI_2, gI_4, gI_9, gI_15, gI_21, gI_49, gP_0, gP_2, gP_4, gP_9, gP_15, gP_21, gP_49, gR_0, gR_2, gR_4, gR_9, gR_15, gR_21, gR_49, gL_53, gL_54, oPz_0, oPz_1, Option.bind_some, c10, c01, cm1, c00, if_true, if_false, ne_eq, not_true_eq_false, not_false_eq_true]
  · have vb := q_val_b hp k1
    have e6 : F 2 6 = 2 := by rw [ct.2.2, k1]; rfl
    have c1 : q_C2 F (up2 F 2 7 (nI (q_val B n p))) := q_C2.up (by decide)
    obtain ⟨G, g1, g2, g3, g4⟩ := X6_fail (N := N) (m := m) (L := L) (T := T) (F := up2 F 2 7 (nI (q_val B n p))) (s := q_S B n p) (x := 2) (by simp (disch := omega) only [up2_ne, up2_o, up2_s]; exact ct.2.1)
    refine ⟨G, ?_, c1.trans g2, g3, g4⟩
    by_cases h1 : nI (q_val B n p) < nI lo
    · simp only [f_X6_takeNumber, f_X6_takeNumber_0, f_X6_takeNumber_38, e6, X6_num hN cb ct hp k1, up2_s, h1, g1, true_or, gI_0, gI_2, gI_4, gI_9, gI_15, gI_21, gI_49, gP_0, gP_2, gP_4, gP_9, gP_15, gP_21, gP_49, gR_0, gR_2, gR_4, gR_9, gR_15, gR_21, gR_49, gL_53, gL_54, oPz_0, oPz_1, Option.bind_some, c10, c01, cm1, c00, if_true, if_false, ne_eq, not_true_eq_false, not_false_eq_true]
    · have h2 : ¬ nI (q_val B n p) ≤ nI hi := by
        have : ¬ q_val B n p < lo := fun q => h1 (nI_lt q (by omega))
        exact nI_ge (by omega) (by omega)
      simp only [f_X6_takeNumber, f_X6_takeNumber_0, f_X6_takeNumber_38, e6, X6_num hN cb ct hp k1, up2_s, h1, h2, g1, true_or, gI_0, gI_2, gI_4, gI_9, gI_15, gI_21, gI_49, gP_0, gP_2, gP_4, gP_9, gP_15, gP_21, gP_49, gR_0, gR_2, gR_4, gR_9, gR_15, gR_21, gR_49, gL_53, gL_54, oPz_0, oPz_1, Option.bind_some, c10, c01, cm1, c00, if_true, if_false, ne_eq, not_true_eq_false, not_false_eq_true]
theorem X6_tS_y (hN : 5000 ≤ N) (cb : q_CB n B F) (ct : q_CT n B F p) (hp : p ≤ n) (h : q_K B n p = 3) : ∃ G, f_X6_takeSemicolon N (Hp m F L T) (some 2) = some (1, Hp m G L T) ∧ q_C2 F G ∧ q_CT n B G (q_E B n p) := by
  have e6 : F 2 6 = 3 := by rw [ct.2.2, h]; rfl
  obtain ⟨G, g1, g2, g3, g4⟩ := X6_adv (N := N) (m := m) (L := L) (T := T) (F := F) (p := q_E B n p) hN cb ct.1 (q_E_b hp).2
  refine ⟨G, ?_, g3, g2⟩
  simp only [f_X6_takeSemicolon, f_X6_takeSemicolon_0, e6, g1, or_true, gI_0, gI_2, gI_4, gI_9, gI_15, gI_21, gI_49, gP_0, gP_2, gP_4, gP_9, gP_15, gP_21, gP_49, gR_0, gR_2, gR_4, gR_9, gR_15, gR_21, gR_49, gL_53, gL_54, oPz_0, oPz_1, Option.bind_some, c10, c01, cm1, c00, if_true, if_false, ne_eq, not_true_eq_false, not_false_eq_true]
theorem X6_tS_n (ct : q_CT n B F p) (h : q_K B n p ≠ 3) : ∃ G, f_X6_takeSemicolon N (Hp m F L T) (some 2) = some (0, Hp m G L T) ∧ q_C2 F G ∧ G 2 2 = nI 1 ∧ G 2 3 = nI (q_S B n p) := by
  have hk4 : q_K B n p ≤ 4 := q_K_le
  have e6 : ¬ F 2 6 = 3 := by
    rw [ct.2.2]
    exact fun q => h ((nI_eq (b := 3) (by omega) (by omega)).mp q)
  obtain ⟨G, g1, g2, g3, g4⟩ := X6_fail (N := N) (m := m) (L := L) (T := T) (x := 1) ct.2.1
  refine ⟨G, ?_, g2, g3, g4⟩
  simp only [f_X6_takeSemicolon, f_X6_takeSemicolon_0, e6, g1, true_or, gI_0, gI_2, gI_4, gI_9, gI_15, gI_21, gI_49, gP_0, gP_2, gP_4, gP_9, gP_15, gP_21, gP_49, gR_0, gR_2, gR_4, gR_9, gR_15, gR_21, gR_49, gL_53, gL_54, oPz_0, oPz_1, Option.bind_some, c10, c01, cm1, c00, if_true, if_false, ne_eq, not_true_eq_false, not_false_eq_true]
/-- a word's kind: 0 none -/
def q_kd (B : Nat → Nat) (n p : Nat) : Nat := if q_isW B n p 2 = true then 1 else if q_isW B n p 3 = true then 2 else if q_isW B n p 4 = true then 3 else if q_isW B n p 5 = true then 4 else if q_isW B n p 6 = true then 5 else 0
theorem q_kd_le : q_kd B n p ≤ 5 := by
  unfold q_kd
  repeat' split
  all_goals omega
theorem X6_sort (hN : 5000 ≤ N) (cb : q_CB n B F) (ct : q_CT n B F p) (hp : p ≤ n) : f_X6_sortNamed N (Hp m F L T) (some 2) = some (nI (q_kd B n p), Hp m F L T) := by
  have w2 : f_X6_isWord N (Hp m F L T) (some 2) (some 1000002) = _ := X6_isW (i := 2) hN (by decide) cb ct hp
  have w3 : f_X6_isWord N (Hp m F L T) (some 2) (some 1000003) = _ := X6_isW (i := 3) hN (by decide) cb ct hp
  have w4 : f_X6_isWord N (Hp m F L T) (some 2) (some 1000004) = _ := X6_isW (i := 4) hN (by decide) cb ct hp
  have w5 : f_X6_isWord N (Hp m F L T) (some 2) (some 1000005) = _ := X6_isW (i := 5) hN (by decide) cb ct hp
  have w6 : f_X6_isWord N (Hp m F L T) (some 2) (some 1000006) = _ := X6_isW (i := 6) hN (by decide) cb ct hp
  unfold q_kd
  simp only [f_X6_sortNamed, f_X6_sortNamed_0, f_X6_sortNamed_58, w2, w3, w4, w5, w6, gI_0, gI_2, gI_4, gI_9, gI_15, gI_21, gI_49, gP_0, gP_2, gP_4, gP_9, gP_15, gP_21, gP_49, gR_0, gR_2, gR_4, gR_9, gR_15, gR_21, gR_49, gL_53, gL_54, oPz_0, oPz_1, Option.bind_some, c10, c01, cm1, c00, if_true, if_false, ne_eq, not_true_eq_false, not_false_eq_true]
  by_cases h2 : q_isW B n p 2 = true
  · simp only [h2, gI_0, gI_2, gI_4, gI_9, gI_15, gI_21, gI_49, gP_0, gP_2, gP_4, gP_9, gP_15, gP_21, gP_49, gR_0, gR_2, gR_4, gR_9, gR_15, gR_21, gR_49, gL_53, gL_54, oPz_0, oPz_1, Option.bind_some, c10, c01, cm1, c00, if_true, if_false, ne_eq, not_true_eq_false, not_false_eq_true]; rfl
  · by_cases h3 : q_isW B n p 3 = true
    · simp only [h2, h3, gI_0, gI_2, gI_4, gI_9, gI_15, gI_21, gI_49, gP_0, gP_2, gP_4, gP_9, gP_15, gP_21, gP_49, gR_0, gR_2, gR_4, gR_9, gR_15, gR_21, gR_49, gL_53, gL_54, oPz_0, oPz_1, Option.bind_some, c10, c01, cm1, c00, if_true, if_false, ne_eq, not_true_eq_false, not_false_eq_true]; rfl
    · by_cases h4 : q_isW B n p 4 = true
      · simp only [h2, h3, h4, gI_0, gI_2, gI_4, gI_9, gI_15, gI_21, gI_49, gP_0, gP_2, gP_4, gP_9, gP_15, gP_21, gP_49, gR_0, gR_2, gR_4, gR_9, gR_15, gR_21, gR_49, gL_53, gL_54, oPz_0, oPz_1, Option.bind_some, c10, c01, cm1, c00, if_true, if_false, ne_eq, not_true_eq_false, not_false_eq_true]; rfl
      · by_cases h5 : q_isW B n p 5 = true
        · simp only [h2, h3, h4, h5, gI_0, gI_2, gI_4, gI_9, gI_15, gI_21, gI_49, gP_0, gP_2, gP_4, gP_9, gP_15, gP_21, gP_49, gR_0, gR_2, gR_4, gR_9, gR_15, gR_21, gR_49, gL_53, gL_54, oPz_0, oPz_1, Option.bind_some, c10, c01, cm1, c00, if_true, if_false, ne_eq, not_true_eq_false, not_false_eq_true]; rfl
        · by_cases h6 : q_isW B n p 6 = true
          · simp only [h2, h3, h4, h5, h6, gI_0, gI_2, gI_4, gI_9, gI_15, gI_21, gI_49, gP_0, gP_2, gP_4, gP_9, gP_15, gP_21, gP_49, gR_0, gR_2, gR_4, gR_9, gR_15, gR_21, gR_49, gL_53, gL_54, oPz_0, oPz_1, Option.bind_some, c10, c01, cm1, c00, if_true, if_false, ne_eq, not_true_eq_false, not_false_eq_true]; rfl
          · simp only [h2, h3, h4, h5, h6, gI_0, gI_2, gI_4, gI_9, gI_15, gI_21, gI_49, gP_0, gP_2, gP_4, gP_9, gP_15, gP_21, gP_49, gR_0, gR_2, gR_4, gR_9, gR_15, gR_21, gR_49, gL_53, gL_54, oPz_0, oPz_1, Option.bind_some, c10, c01, cm1, c00, if_true, if_false, ne_eq, not_true_eq_false, not_false_eq_true]; rfl
end CW
