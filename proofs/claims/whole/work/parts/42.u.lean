-- BITS THAT ARE SET
def pcN (n : Nat) : Nat := sumN (fun j => n / 2 ^ j % 2) 24
def pc8 (x : Nat) : Nat := x % 2 + x / 2 % 2 + x / 4 % 2 + x / 8 % 2 + x / 16 % 2 + x / 32 % 2 + x / 64 % 2 + x / 128 % 2
theorem pb_0 (n : Nat) : n % 2 = n % 256 % 2 := by omega
theorem pb_1 (n : Nat) : n / 2 % 2 = n % 256 / 2 % 2 := by omega
theorem pb_2 (n : Nat) : n / 4 % 2 = n % 256 / 4 % 2 := by omega
theorem pb_3 (n : Nat) : n / 8 % 2 = n % 256 / 8 % 2 := by omega
theorem pb_4 (n : Nat) : n / 16 % 2 = n % 256 / 16 % 2 := by omega
theorem pb_5 (n : Nat) : n / 32 % 2 = n % 256 / 32 % 2 := by omega
theorem pb_6 (n : Nat) : n / 64 % 2 = n % 256 / 64 % 2 := by omega
theorem pb_7 (n : Nat) : n / 128 % 2 = n % 256 / 128 % 2 := by omega
theorem pb_8 (n : Nat) : n / 256 % 2 = n / 256 % 256 % 2 := by omega
theorem pb_9 (n : Nat) : n / 512 % 2 = n / 256 % 256 / 2 % 2 := by omega
theorem pb_10 (n : Nat) : n / 1024 % 2 = n / 256 % 256 / 4 % 2 := by omega
theorem pb_11 (n : Nat) : n / 2048 % 2 = n / 256 % 256 / 8 % 2 := by omega
theorem pb_12 (n : Nat) : n / 4096 % 2 = n / 256 % 256 / 16 % 2 := by omega
theorem pb_13 (n : Nat) : n / 8192 % 2 = n / 256 % 256 / 32 % 2 := by omega
theorem pb_14 (n : Nat) : n / 16384 % 2 = n / 256 % 256 / 64 % 2 := by omega
theorem pb_15 (n : Nat) : n / 32768 % 2 = n / 256 % 256 / 128 % 2 := by omega
theorem pb_17 (n : Nat) : n / 131072 % 2 = n / 65536 / 2 % 2 := by omega
theorem pb_18 (n : Nat) : n / 262144 % 2 = n / 65536 / 4 % 2 := by omega
theorem pb_19 (n : Nat) : n / 524288 % 2 = n / 65536 / 8 % 2 := by omega
theorem pb_20 (n : Nat) : n / 1048576 % 2 = n / 65536 / 16 % 2 := by omega
theorem pb_21 (n : Nat) : n / 2097152 % 2 = n / 65536 / 32 % 2 := by omega
theorem pb_22 (n : Nat) : n / 4194304 % 2 = n / 65536 / 64 % 2 := by omega
theorem pb_23 (n : Nat) : n / 8388608 % 2 = n / 65536 / 128 % 2 := by omega
theorem pcN_bytes {n : Nat} : pcN n = pc8 (n % 256) + pc8 (n / 256 % 256) + pc8 (n / 65536) := by
  unfold pcN pc8
  simp only [sumN, Nat.reducePow, Nat.div_one, Nat.zero_add]
  rw [pb_0 n, pb_1 n, pb_2 n, pb_3 n, pb_4 n, pb_5 n, pb_6 n, pb_7 n, pb_8 n, pb_9 n, pb_10 n, pb_11 n, pb_12 n, pb_13 n, pb_14 n, pb_15 n, pb_17 n, pb_18 n, pb_19 n, pb_20 n, pb_21 n, pb_22 n, pb_23 n]
  simp only [Nat.add_assoc]
theorem bc_4 {a b c : Nat} (ha : a ≤ 8) (hb : b ≤ 8) (hc : c ≤ 8) : ((65536 * c + 256 * b + a + (65536 * c + 256 * b + a) / 256) + (65536 * c + 256 * b + a + (65536 * c + 256 * b + a) / 256) / 65536) % 64 = a + b + c := by
  have f1 : (65536 * c + 256 * b + a) / 256 = 256 * c + b := by omega
  have f2 : (65536 * c + 256 * b + a + (256 * c + b)) / 65536 = c := by omega
  rw [f1, f2]
  omega
theorem and_split {k a b c d : Nat} (hb : b < 2 ^ k) (hd : d < 2 ^ k) : (2 ^ k * a + b) &&& (2 ^ k * c + d) = 2 ^ k * (a &&& c) + (b &&& d) := by
  have hbd : b &&& d < 2 ^ k := Nat.lt_of_le_of_lt Nat.and_le_left hb
  apply Nat.eq_of_testBit_eq
  intro j
  rw [Nat.testBit_and, Nat.testBit_two_pow_mul_add _ hb, Nat.testBit_two_pow_mul_add _ hd, Nat.testBit_two_pow_mul_add _ hbd]
  split
  · rw [Nat.testBit_and]
  · rw [Nat.testBit_and]
def g1 (x : Nat) : Nat := x - ((x / 2) &&& 85)
def g2 (y : Nat) : Nat := (y &&& 51) + ((y / 4) &&& 51)
theorem d1 : ∀ x, x < 256 → ∀ e, e < 2 → ((x / 2 + 128 * e) &&& 85) = ((x / 2) &&& 85) ∧ ((x / 2) &&& 85) ≤ x := by decide +kernel
theorem d2 : ∀ y, y < 256 → ∀ e, e < 4 → ((y / 4 + 64 * e) &&& 51) = ((y / 4) &&& 51) := by decide +kernel
theorem d3 : ∀ x, x < 256 → g2 (g1 x) ≤ 68 ∧ g2 (g1 x) % 16 ≤ 4 ∧ g1 x < 256 ∧ (g2 (g1 x) + g2 (g1 x) / 16) % 16 = pc8 x := by decide +kernel
theorem pc8_le : ∀ x, x < 256 → pc8 x ≤ 8 := by decide +kernel
theorem and3 {x y z k : Nat} (hx : x < 256) (hy : y < 256) (hk : k < 256) : (65536 * z + 256 * y + x) &&& (16777216 * k + 65536 * k + 256 * k + k) = 65536 * (z &&& (256 * k + k)) + 256 * (y &&& k) + (x &&& k) := by
  have a := and_split (k := 8) (a := 256 * z + y) (b := x) (c := 65536 * k + 256 * k + k) (d := k) hx hk
  have b := and_split (k := 8) (a := z) (b := y) (c := 256 * k + k) (d := k) hy hk
  simp only [Nat.reducePow] at a b
  rw [show 65536 * z + 256 * y + x = 256 * (256 * z + y) + x by omega, show 16777216 * k + 65536 * k + 256 * k + k = 256 * (65536 * k + 256 * k + k) + k by omega, a, show 65536 * k + 256 * k + k = 256 * (256 * k + k) + k by omega, b]
  omega
theorem and3' {x y z k : Nat} (hx : x < 256) (hy : y < 256) (hz : z < 256) (hk : k < 256) : (65536 * z + 256 * y + x) &&& (16777216 * k + 65536 * k + 256 * k + k) = 65536 * (z &&& k) + 256 * (y &&& k) + (x &&& k) := by
  rw [and3 hx hy hk]
  have c := and_split (k := 8) (a := 0) (b := z) (c := k) (d := k) hz hk
  simp only [Nat.reducePow, Nat.mul_zero, Nat.zero_add, Nat.zero_and] at c
  rw [c]
theorem and15 : ∀ x, x < 256 → (x &&& 15) = x % 16 := by decide +kernel
theorem bc_1 {x y z : Nat} (hx : x < 256) (hy : y < 256) (hz : z < 256) : (65536 * z + 256 * y + x) - (((65536 * z + 256 * y + x) / 2) &&& 1431655765) = 65536 * g1 z + 256 * g1 y + g1 x := by
  have e : (65536 * z + 256 * y + x) / 2 = 65536 * (z / 2) + 256 * (y / 2 + 128 * (z % 2)) + (x / 2 + 128 * (y % 2)) := by omega
  have a := and3' (x := x / 2 + 128 * (y % 2)) (y := y / 2 + 128 * (z % 2)) (z := z / 2) (k := 85) (by omega) (by omega) (by omega) (by omega)
  simp only [Nat.reduceMul, Nat.reduceAdd] at a
  have b1 := d1 x hx (y % 2) (by omega)
  have b2 := d1 y hy (z % 2) (by omega)
  have b3 := d1 z hz 0 (by omega)
  rw [e, a, b1.1, b2.1]
  unfold g1
  have := b1.2
  have := b2.2
  have := b3.2
  omega
theorem bc_2 {x y z : Nat} (hx : x < 256) (hy : y < 256) (hz : z < 256) : ((65536 * z + 256 * y + x) &&& 858993459) + (((65536 * z + 256 * y + x) / 4) &&& 858993459) = 65536 * g2 z + 256 * g2 y + g2 x := by
  have e : (65536 * z + 256 * y + x) / 4 = 65536 * (z / 4) + 256 * (y / 4 + 64 * (z % 4)) + (x / 4 + 64 * (y % 4)) := by omega
  have a := and3' (x := x / 4 + 64 * (y % 4)) (y := y / 4 + 64 * (z % 4)) (z := z / 4) (k := 51) (by omega) (by omega) (by omega) (by omega)
  have c := and3' (k := 51) hx hy hz (by omega)
  simp only [Nat.reduceMul, Nat.reduceAdd] at a c
  rw [e, a, c, d2 x hx (y % 4) (by omega), d2 y hy (z % 4) (by omega)]
  unfold g2
  omega
theorem bc_3 {x y z : Nat} (hx : x ≤ 68) (hy : y ≤ 68) (hz : z ≤ 68) (hy2 : y % 16 ≤ 4) (hz2 : z % 16 ≤ 4) : (((65536 * z + 256 * y + x) + (65536 * z + 256 * y + x) / 16) &&& 252645135) = 65536 * ((z + z / 16) % 16) + 256 * ((y + y / 16) % 16) + (x + x / 16) % 16 := by
  have e : (65536 * z + 256 * y + x) + (65536 * z + 256 * y + x) / 16 = 65536 * (z + z / 16) + 256 * (y + y / 16 + 16 * (z % 16)) + (x + x / 16 + 16 * (y % 16)) := by omega
  have a := and3' (x := x + x / 16 + 16 * (y % 16)) (y := y + y / 16 + 16 * (z % 16)) (z := z + z / 16) (k := 15) (by omega) (by omega) (by omega) (by omega)
  simp only [Nat.reduceMul, Nat.reduceAdd] at a
  rw [e, a, and15 _ (by omega), and15 _ (by omega), and15 _ (by omega)]
  omega
theorem bc_N {n : Nat} (h : n < 2 ^ 24) : ∃ v1 v2 v3, v1 = n - ((n / 2) &&& 1431655765) ∧ v1 ≤ n ∧ v2 = (v1 &&& 858993459) + ((v1 / 4) &&& 858993459) ∧ v2 < 2 ^ 24 ∧ v3 = ((v2 + v2 / 16) &&& 252645135) ∧ v3 < 2 ^ 24 ∧ ((v3 + v3 / 256) + (v3 + v3 / 256) / 65536) % 64 = pcN n := by
  obtain ⟨x, y, z, hx, hy, hz, rfl⟩ : ∃ x y z, x < 256 ∧ y < 256 ∧ z < 256 ∧ n = 65536 * z + 256 * y + x := ⟨n % 256, n / 256 % 256, n / 65536, by omega, by omega, by omega, by omega⟩
  obtain ⟨x1, x2, x3, x4⟩ := d3 x hx
  obtain ⟨y1, y2, y3, y4⟩ := d3 y hy
  obtain ⟨z1, z2, z3, z4⟩ := d3 z hz
  refine ⟨65536 * g1 z + 256 * g1 y + g1 x, 65536 * g2 (g1 z) + 256 * g2 (g1 y) + g2 (g1 x), 65536 * pc8 z + 256 * pc8 y + pc8 x, (bc_1 hx hy hz).symm, ?_, (bc_2 x3 y3 z3).symm, by omega, ?_, ?_, ?_⟩
  · rw [← bc_1 hx hy hz]
    exact Nat.sub_le _ _
  · rw [bc_3 x1 y1 z1 y2 z2, x4, y4, z4]
  · have := pc8_le x hx
    have := pc8_le y hy
    have := pc8_le z hz
    omega
  · have := pc8_le x hx
    have := pc8_le y hy
    have := pc8_le z hz
    rw [pcN_bytes, show (65536 * z + 256 * y + x) % 256 = x by omega, show (65536 * z + 256 * y + x) / 256 % 256 = y by omega, show (65536 * z + 256 * y + x) / 65536 = z by omega]
    exact bc_4 (pc8_le x hx) (pc8_le y hy) (pc8_le z hz)
theorem ush {n k : Nat} (hn : n < 2 ^ 32) (s : Int32) (hs : ((s.toUInt32 &&& Int32.toUInt32 31).toBitVec % 32).toNat = k) : ((nI n).toUInt32 >>> (s.toUInt32 &&& Int32.toUInt32 31)).toInt32 = nI (n / 2 ^ k) := pk_ushrN hn s k hs
theorem C_bitc {N n : Nat} {A : hP} (h : n < 2 ^ 24) : f_J6_bitCount_0f7a4 N A (nI n) = some (nI (pcN n), A) := by
  obtain ⟨v1, v2, v3, e1, l1, e2, l2, e3, l3, e4⟩ := bc_N h
  have a1 : nI n - (((nI n).toUInt32 >>> ((1 : Int32).toUInt32 &&& Int32.toUInt32 31)).toInt32 &&& 1431655765) = nI v1 := by
    rw [ush (k := 1) (by omega) 1 (by decide), show (1431655765 : Int32) = nI 1431655765 from rfl, fa_and, Nat.pow_one, e1]
    exact pk_sub (Nat.le_trans Nat.and_le_left (Nat.div_le_self _ _))
  have a2 : (nI v1 &&& 858993459) + (((nI v1).toUInt32 >>> ((2 : Int32).toUInt32 &&& Int32.toUInt32 31)).toInt32 &&& 858993459) = nI v2 := by
    rw [ush (k := 2) (by omega) 2 (by decide), show (858993459 : Int32) = nI 858993459 from rfl, fa_and, fa_and, nI_add, e2]
  have a3 : (nI v2 + ((nI v2).toUInt32 >>> ((4 : Int32).toUInt32 &&& Int32.toUInt32 31)).toInt32) &&& 252645135 = nI v3 := by
    rw [ush (k := 4) (by omega) 4 (by decide), nI_add, show (252645135 : Int32) = nI 252645135 from rfl, fa_and, e3]
  have a4 : nI v3 + ((nI v3).toUInt32 >>> ((8 : Int32).toUInt32 &&& Int32.toUInt32 31)).toInt32 = nI (v3 + v3 / 256) := by
    rw [ush (k := 8) (by omega) 8 (by decide), nI_add]
  have a5 : (nI (v3 + v3 / 256) + ((nI (v3 + v3 / 256)).toUInt32 >>> ((16 : Int32).toUInt32 &&& Int32.toUInt32 31)).toInt32) &&& 63 = nI (pcN n) := by
    rw [ush (k := 16) (by omega) 16 (by decide), nI_add, ← e4]
    exact fa_mask _ 6
  unfold f_J6_bitCount_0f7a4 f_J6_bitCount_0f7a4_0
  rw [a1, a2, a3, a4, a5]
theorem M_bits_l {N b : Nat} {A : hP} (h : b < 2 ^ 31) : ∀ (n i : Nat), i ≤ 24 → 24 < i + n → f_X12_bits_4 N n A (nI b) (nI (sumN (fun j => b / 2 ^ j % 2) i)) (nI i) = some (nI (pcN b), A) := by
  intro n
  induction n with
  | zero => intro i h1 h2; omega
  | succ n ih =>
    intro i h1 h2
    rw [f_X12_bits_4]
    by_cases hi : i = 24
    · subst hi
      rw [if_pos (by decide)]
      rfl
    · have hk : ¬ (24 : Int32) ≤ nI i := nI_ge (a := i) (b := 24) (by omega) (by omega)
      have e : (nI b >>> (nI i &&& 31)) &&& 1 = nI (b / 2 ^ i % 2) := by
        rw [shrN h (by omega)]
        exact fa_mask _ 1
      rw [if_neg hk, e, nI_add, nI_1]
      exact ih (i + 1) (by omega) (by omega)
theorem M_bits {N b : Nat} {A : hP} (hN : 5000 ≤ N) (h : b < 2 ^ 31) : f_X12_bits N A (nI b) = some (nI (pcN b), A) := M_bits_l h N 0 (by omega) (by omega)
theorem pc_cnt_l {p : Nat → Bool} {k : Nat} : ∀ n, sumN (fun j => bitsN p k / 2 ^ j % 2) n = fa_cnt p (min n k)
  | 0 => by simp [sumN, fa_cnt]
  | n + 1 => by
    rw [sumN, pc_cnt_l n]
    have h := bitsN_tb p k n
    rw [Nat.testBit_eq_decide_div_mod_eq] at h
    by_cases hn : n < k
    · rw [show min (n + 1) k = n + 1 by omega, show min n k = n by omega]
      simp only [hn, decide_true, Bool.true_and] at h
      cases hp : p n with
      | true => rw [fa_cnt_yes hp]; rw [hp] at h; have := of_decide_eq_true h; omega
      | false => rw [fa_cnt_no hp]; rw [hp] at h; have := of_decide_eq_false h; omega
    · rw [show min (n + 1) k = k by omega, show min n k = k by omega]
      simp only [hn, decide_false, Bool.false_and] at h
      have := of_decide_eq_false h
      omega
theorem pc_cnt {p : Nat → Bool} {k : Nat} (hk : k ≤ 24) : pcN (bitsN p k) = fa_cnt p k := by
  unfold pcN
  rw [pc_cnt_l, show min 24 k = k by omega]
theorem cnt_mono {p : Nat → Bool} {a b : Nat} (h : a ≤ b) : fa_cnt p a ≤ fa_cnt p b := by
  induction b with
  | zero => rw [show a = 0 by omega]; exact Nat.le_refl _
  | succ b ih =>
    by_cases hab : a = b + 1
    · rw [hab]; exact Nat.le_refl _
    · have := ih (by omega)
      rw [fa_cnt]
      omega
theorem cnt_full {p : Nat → Bool} : ∀ {k : Nat}, fa_cnt p k = k → ∀ j, j < k → p j = true
  | 0, _, j, hj => by omega
  | k + 1, h, j, hj => by
    have h1 := fa_cnt_le p k
    cases hp : p k with
    | true =>
      rw [fa_cnt_yes hp] at h
      by_cases hjk : j = k
      · rw [hjk]; exact hp
      · exact cnt_full (k := k) (by omega) j (by omega)
    | false =>
      rw [fa_cnt_no hp] at h
      omega
theorem bits_all : ∀ k, bitsN (fun _ => true) k = 2 ^ k - 1
  | 0 => rfl
  | k + 1 => by
    rw [bitsN_s, bits_all k, if_pos rfl, Nat.pow_succ]
    have := Nat.one_le_two_pow (n := k)
    omega
theorem cnt_all : ∀ k, fa_cnt (fun _ => true) k = k
  | 0 => rfl
  | k + 1 => by rw [fa_cnt_yes rfl, cnt_all k]
-- WRONG
def bstN (B : Nat → Nat) (k : Nat) : Nat → Nat
  | 0 => 2 ^ k - 1
  | x + 1 => if pcN (B x) < pcN (bstN B k x) ∨ (pcN (B x) = pcN (bstN B k x) ∧ B x < bstN B k x) then B x else bstN B k x
theorem bst_lt {B : Nat → Nat} {k : Nat} (hB : ∀ x, B x < 2 ^ k) : ∀ x, bstN B k x < 2 ^ k
  | 0 => by
    have := Nat.one_le_two_pow (n := k)
    rw [bstN]
    omega
  | x + 1 => by
    rw [bstN]
    split
    · exact hB x
    · exact bst_lt hB x
theorem bst_1 {p : Nat → Nat → Bool} {k : Nat} (hk : k ≤ 24) : bstN (fun x => bitsN (p x) k) k 1 = bitsN (p 0) k := by
  rw [bstN, bstN, ← bits_all k, pc_cnt hk, pc_cnt hk, cnt_all]
  have h1 := fa_cnt_le (p 0) k
  by_cases h : fa_cnt (p 0) k < k ∨ (fa_cnt (p 0) k = k ∧ bitsN (p 0) k < bitsN (fun _ => true) k)
  · rw [if_pos h]
  · rw [if_neg h]
    have : fa_cnt (p 0) k = k := by
      rcases Nat.lt_or_ge (fa_cnt (p 0) k) k with q | q
      · exact absurd (Or.inl q) h
      · omega
    exact bitsN_c (fun t ht => (cnt_full this t ht).symm)
theorem pc_le {n : Nat} : pcN n ≤ 24 := by
  have : pcN n ≤ 1 * 24 := sumN_le (fun j _ => by omega)
  omega
section WRs
variable {N m : Nat} {F : Nat → Nat → Int32} {L : Nat → Nat → Option Nat} {T : Nat → Nat} {P S : Nat → Nat}
theorem C_false_l {x most : Nat} (hN : 5000 ≤ N) (pv : PV P) (tv : TV F P S (P 4)) (hx : x < 4096) (hm : most ≤ 24) : ∀ (n i : Nat), i ≤ P 4 → P 4 < i + n → ∃ j, j ≤ P 4 ∧ (j = P 4 ∨ most < fa_cnt (wrg (F 19) (shW P S x)) j) ∧ f_X10_falseIn_8 N n (Hp m F L T) (some 15) (nI x) (nI most) (nI (bitsN (wrg (F 19) (shW P S x)) i)) (nI (fa_cnt (wrg (F 19) (shW P S x)) i)) (nI i) = some (nI (bitsN (wrg (F 19) (shW P S x)) j), Hp m F L T) := by
  obtain ⟨v0, v1, v2, v3, v4, -⟩ := pv
  obtain ⟨t4, t5, t6, t7, tt⟩ := tv
  intro n
  induction n with
  | zero => intro i h1 h2; omega
  | succ n ih =>
    intro i h5 h6
    have hc := fa_cnt_le (wrg (F 19) (shW P S x)) i
    by_cases hi : i = P 4
    · refine ⟨i, by omega, Or.inl hi, ?_⟩
      rw [f_X10_falseIn_8]
      simp only [t6, f_X10_falseIn_67, gI_0, gI_2, gI_4, gI_9, gI_15, gI_21, gI_49, gP_0, gP_2, gP_4, gP_9, gP_15, gP_21, gP_49, gR_0, gR_2, gR_4, gR_9, gR_15, gR_21, gR_49, gL_53, gL_54, oPz_0, oPz_1, Option.bind_some, c10, c01, cm1, c00, if_true, if_false, ne_eq, not_true_eq_false, not_false_eq_true]
      rw [if_pos (by rw [hi]; exact Int32.le_refl _)]
    · have hi' : i < P 4 := by omega
      by_cases hmo : most < fa_cnt (wrg (F 19) (shW P S x)) i
      · refine ⟨i, by omega, Or.inr hmo, ?_⟩
        rw [f_X10_falseIn_8]
        simp only [t6, f_X10_falseIn_67, gI_0, gI_2, gI_4, gI_9, gI_15, gI_21, gI_49, gP_0, gP_2, gP_4, gP_9, gP_15, gP_21, gP_49, gR_0, gR_2, gR_4, gR_9, gR_15, gR_21, gR_49, gL_53, gL_54, oPz_0, oPz_1, Option.bind_some, c10, c01, cm1, c00, if_true, if_false, ne_eq, not_true_eq_false, not_false_eq_true]
        rw [if_neg (nI_ge hi' (by omega)), if_pos (nI_lt hmo (by omega))]
      · obtain ⟨j, j1, j2, j3⟩ := ih (i + 1) (by omega) (by omega)
        refine ⟨j, j1, j2, ?_⟩
        rw [f_X10_falseIn_8]
        simp only [t6, gI_0, gI_2, gI_4, gI_9, gI_15, gI_21, gI_49, gP_0, gP_2, gP_4, gP_9, gP_15, gP_21, gP_49, gR_0, gR_2, gR_4, gR_9, gR_15, gR_21, gR_49, gL_53, gL_54, oPz_0, oPz_1, Option.bind_some, c10, c01, cm1, c00, if_true, if_false, ne_eq, not_true_eq_false, not_false_eq_true]
        rw [if_neg (nI_ge hi' (by omega)), if_neg (nI_nlt (by omega) (by omega))]
        simp only [(gN_19 (show i < 24 by omega)).1, f_X10_falseIn_61, C_shIn hN v3 v0 v1 v2 t4 t5 (fun e he => tt e (show e < P 4 by omega)) (show i ≤ 25 by omega) hx, nI_1, gI_0, gI_2, gI_4, gI_9, gI_15, gI_21, gI_49, gP_0, gP_2, gP_4, gP_9, gP_15, gP_21, gP_49, gR_0, gR_2, gR_4, gR_9, gR_15, gR_21, gR_49, gL_53, gL_54, oPz_0, oPz_1, Option.bind_some, c10, c01, cm1, c00, if_true, if_false, ne_eq, not_true_eq_false, not_false_eq_true]
        rw [bitsN_s] at j3
        by_cases hg : F 19 i = -1
        · rw [if_pos hg]
          rw [fa_cnt_no (wrg_f (Or.inl hg)), wrg_f (Or.inl hg), if_neg (by decide), Nat.add_zero] at j3
          exact j3
        · rw [if_neg hg]
          by_cases hs : F 19 i = nI (shW P S x i)
          · rw [if_pos hs]
            rw [fa_cnt_no (wrg_f (Or.inr hs)), wrg_f (Or.inr hs), if_neg (by decide), Nat.add_zero] at j3
            exact j3
          · rw [if_neg hs, or_bit _ (by omega)]
            rw [fa_cnt_yes (wrg_t hg hs), wrg_t hg hs, if_pos rfl] at j3
            exact j3
theorem C_few_l {B : Nat → Nat} (hB : ∀ y, B y = bitsN (wrg (F 19) (shW P S y)) (P 4)) (hN : 5000 ≤ N) (pv : PV P) (tv : TV F P S (P 4)) : ∀ (n x : Nat), x ≤ 8 ^ P 3 → 8 ^ P 3 < x + n → f_X10_fewestFalse_16 N n (Hp m F L T) (some 15) (nI (bstN B (P 4) x)) (nI (pcN (bstN B (P 4) x))) (nI x) = some (nI (bstN B (P 4) (8 ^ P 3)), Hp m F L T) := by
  have hp := p8_le pv.2.2.2.1
  have v4 : P 4 ≤ 24 := pv.2.2.2.2.1
  have hp24 : 2 ^ P 4 ≤ 2 ^ 24 := Nat.pow_le_pow_right (by decide) v4
  intro n
  induction n with
  | zero => intro x h1 h2; omega
  | succ n ih =>
    intro x h1 h2
    rw [f_X10_fewestFalse_16]
    simp only [tv.2.2.2.1, gI_0, gI_2, gI_4, gI_9, gI_15, gI_21, gI_49, gP_0, gP_2, gP_4, gP_9, gP_15, gP_21, gP_49, gR_0, gR_2, gR_4, gR_9, gR_15, gR_21, gR_49, gL_53, gL_54, oPz_0, oPz_1, Option.bind_some, c10, c01, cm1, c00, if_true, if_false, ne_eq, not_true_eq_false, not_false_eq_true]
    by_cases hx : x = 8 ^ P 3
    · rw [if_pos (by rw [hx]; exact Int32.le_refl _), hx]
    · rw [if_neg (nI_ge (show x < 8 ^ P 3 by omega) (by omega))]
      have ih' := ih (x + 1) (by omega) (by omega)
      rw [bstN] at ih'
      have hbst := bst_lt (B := B) (k := P 4) (fun y => by rw [hB]; exact bitsN_lt _ _) x
      have hpc : pcN (bstN B (P 4) x) ≤ 24 := pc_le
      have hBx := hB x
      have hpB : pcN (B x) = fa_cnt (wrg (F 19) (shW P S x)) (P 4) := by rw [hBx]; exact pc_cnt v4
      have hBl : B x < 2 ^ P 4 := by rw [hBx]; exact bitsN_lt _ _
      generalize bstN B (P 4) x = bs at *
      generalize hps : pcN bs = ps at *
      obtain ⟨j, j1, j2, j3⟩ := C_false_l (N := N) (m := m) (L := L) (T := T) hN pv tv (show x < 4096 by omega) hpc N 0 (by omega) (by omega)
      have j3' : f_X10_falseIn_8 N N (Hp m F L T) (some 15) (nI x) (nI ps) 0 0 0 = some (nI (bitsN (wrg (F 19) (shW P S x)) j), Hp m F L T) := j3
      have hj := bitsN_lt (wrg (F 19) (shW P S x)) j
      have hj2 : 2 ^ j ≤ 2 ^ 24 := Nat.pow_le_pow_right (by decide) (by omega)
      have hcj := fa_cnt_le (wrg (F 19) (shW P S x)) j
      have hbc := C_bitc (N := N) (A := Hp m F L T) (show bitsN (wrg (F 19) (shW P S x)) j < 2 ^ 24 by omega)
      rw [pc_cnt (p := wrg (F 19) (shW P S x)) (show j ≤ 24 by omega)] at hbc
      have jf : f_X10_falseIn N (Hp m F L T) (some 15) (nI x) (nI ps) = some (nI (bitsN (wrg (F 19) (shW P S x)) j), Hp m F L T) := j3'
      rw [jf, Option.bind_some]
      dsimp only
      rw [hbc, Option.bind_some]
      clear hbc j3 j3' jf
      simp only [f_X10_fewestFalse_57, f_X10_fewestFalse_63, nI_1]
      by_cases hjP : j = P 4
      · rw [hjP, ← hBx, ← hpB]
        rw [hjP, ← hpB] at hcj
        by_cases ha : pcN (B x) < ps
        · rw [if_pos (nI_lt ha (by omega))]
          rw [if_pos (Or.inl ha)] at ih'
          exact ih'
        · rw [if_neg (nI_nlt (by omega) (by omega))]
          by_cases hb : pcN (B x) = ps
          · rw [if_pos (by rw [hb])]
            by_cases hc : B x < bs
            · rw [if_neg (nI_ge hc (by omega))]
              rw [if_pos (Or.inr ⟨hb, hc⟩)] at ih'
              exact ih'
            · rw [if_pos (nI_le (by omega) (by omega))]
              rw [if_neg (fun q => by rcases q with q | q; exact ha q; exact hc q.2), hps] at ih'
              exact ih'
          · rw [if_neg (fun q => hb ((nI_eq (by omega) (by omega)).mp q))]
            rw [if_neg (fun q => by rcases q with q | q; exact ha q; exact hb q.1), hps] at ih'
            exact ih'
      · have hmo : ps < fa_cnt (wrg (F 19) (shW P S x)) j := by
          rcases j2 with q | q
          · exact absurd q hjP
          · exact q
        have hmo2 := cnt_mono (p := wrg (F 19) (shW P S x)) j1
        rw [if_neg (nI_nlt (by omega) (by omega)), if_neg (fun q => by have := (nI_eq (by omega) (by omega)).mp q; omega)]
        rw [if_neg (fun q => by rcases q with q | q <;> omega), hps] at ih'
        exact ih'
theorem M_wrg_l {q : Nat} {tv : Nat → Int32} {G0 : Nat → Nat → Int32} {x2 : Int32} (hN : 5000 ≤ N) (mc : MC G0 P S q tv) : ∀ (n x : Nat) (st : Int32) (G : Nat → Nat → Int32), (∀ p, p ≠ 56 → G p = G0 p) → x ≤ 8 ^ P 3 → 8 ^ P 3 < x + n → ((x = 0 ∧ st = -1000000) ∨ (0 < x ∧ st = nI (bstN (fun y => bitsN (wrg tv (shW P S y)) (P 4)) (P 4) x))) → ∃ G', f_X12_wrong_31 N n (Hp m G L T) (some 49) (nI q) x2 st (nI x) = some (if x2 = 0 then nI (pcN (bstN (fun y => bitsN (wrg tv (shW P S y)) (P 4)) (P 4) (8 ^ P 3))) else nI (bstN (fun y => bitsN (wrg tv (shW P S y)) (P 4)) (P 4) (8 ^ P 3)), Hp m G' L T) ∧ ∀ p, p ≠ 56 → G' p = G0 p := by
  have h3 := mc.2.1.1
  have hp := p8_le h3
  have h4 := mc.2.2.2.2.1
  have hp24 : 2 ^ P 4 ≤ 2 ^ 24 := Nat.pow_le_pow_right (by decide) h4
  have hpos : 0 < 8 ^ P 3 := Nat.pow_pos (by decide)
  intro n
  induction n with
  | zero => intro x st G _ h1 h2; omega
  | succ n ih =>
    intro x st G e h1 h2 hst
    rw [f_X12_wrong_31]
    have g3 : G 53 3 = nI (P 3) := by rw [e 53 (by decide)]; exact mc.2.1.2.2.2.2.1
    have hbst := bst_lt (B := fun y => bitsN (wrg tv (shW P S y)) (P 4)) (fun y => bitsN_lt _ _) x
    have hB := bitsN_lt (wrg tv (shW P S x)) (P 4)
    have hpc : pcN (bstN (fun y => bitsN (wrg tv (shW P S y)) (P 4)) (P 4) x) ≤ 24 := pc_le
    have hpcB : pcN (bitsN (wrg tv (shW P S x)) (P 4)) ≤ 24 := pc_le
    simp only [M_worlds h3 g3, f_X12_wrong_134, gI_0, gI_2, gI_4, gI_9, gI_15, gI_21, gI_49, gP_0, gP_2, gP_4, gP_9, gP_15, gP_21, gP_49, gR_0, gR_2, gR_4, gR_9, gR_15, gR_21, gR_49, gL_53, gL_54, oPz_0, oPz_1, Option.bind_some, c10, c01, cm1, c00, if_true, if_false, ne_eq, not_true_eq_false, not_false_eq_true]
    by_cases hx : x = 8 ^ P 3
    · refine ⟨G, ?_, e⟩
      rcases hst with ⟨h, -⟩ | ⟨-, hst⟩
      · omega
      · rw [if_pos (by rw [hx]; exact Int32.le_refl _), hst, ← hx]
        simp only [M_bits hN (show bstN (fun y => bitsN (wrg tv (shW P S y)) (P 4)) (P 4) x < 2 ^ 31 by omega), gI_0, gI_2, gI_4, gI_9, gI_15, gI_21, gI_49, gP_0, gP_2, gP_4, gP_9, gP_15, gP_21, gP_49, gR_0, gR_2, gR_4, gR_9, gR_15, gR_21, gR_49, gL_53, gL_54, oPz_0, oPz_1, Option.bind_some, c10, c01, cm1, c00, if_true, if_false, ne_eq, not_true_eq_false, not_false_eq_true]
        split <;> rfl
    · rw [if_neg (nI_ge (show x < 8 ^ P 3 by omega) (by omega))]
      obtain ⟨G1, a1, a2, a3, a4, a5⟩ := M_world (N := N) (m := m) (L := L) (T := T) hN mc (show x < 4096 by omega) e
      obtain ⟨G', r1, r2⟩ := ih (x + 1) _ G1 a2 (by omega) (by omega) (Or.inr ⟨by omega, rfl⟩)
      refine ⟨G', ?_, r2⟩
      simp only [a1, a5, f_X12_wrong_93, f_X12_wrong_97, f_X12_wrong_98, f_X12_wrong_112, nI_1, gI_0, gI_2, gI_4, gI_9, gI_15, gI_21, gI_49, gP_0, gP_2, gP_4, gP_9, gP_15, gP_21, gP_49, gR_0, gR_2, gR_4, gR_9, gR_15, gR_21, gR_49, gL_53, gL_54, oPz_0, oPz_1, Option.bind_some, c10, c01, cm1, c00, if_true, if_false, ne_eq, not_true_eq_false, not_false_eq_true]
      rcases hst with ⟨hx0, hst⟩ | ⟨hx0, hst⟩
      · rw [if_pos hst]
        subst hx0
        rw [bst_1 h4] at r1
        exact r1
      · have hne : ¬ st = -1000000 := by
          rw [hst]
          intro q
          have := (fa_eq _ _).mp q
          rw [nI_toInt (by omega)] at this
          have e : (-1000000 : Int32).toInt = -1000000 := by decide
          omega
        rw [if_neg hne, hst]
        simp only [M_bits hN (show bstN (fun y => bitsN (wrg tv (shW P S y)) (P 4)) (P 4) x < 2 ^ 31 by omega), M_bits hN (show bitsN (wrg tv (shW P S x)) (P 4) < 2 ^ 31 by omega), gI_0, gI_2, gI_4, gI_9, gI_15, gI_21, gI_49, gP_0, gP_2, gP_4, gP_9, gP_15, gP_21, gP_49, gR_0, gR_2, gR_4, gR_9, gR_15, gR_21, gR_49, gL_53, gL_54, oPz_0, oPz_1, Option.bind_some, c10, c01, cm1, c00, if_true, if_false, ne_eq, not_true_eq_false, not_false_eq_true]
        rw [bstN] at r1
        by_cases ha : pcN (bitsN (wrg tv (shW P S x)) (P 4)) < pcN (bstN (fun y => bitsN (wrg tv (shW P S y)) (P 4)) (P 4) x)
        · rw [if_pos (nI_lt ha (by omega))]
          rw [if_pos (Or.inl ha)] at r1
          exact r1
        · rw [if_neg (nI_nlt (by omega) (by omega))]
          by_cases hb : pcN (bitsN (wrg tv (shW P S x)) (P 4)) = pcN (bstN (fun y => bitsN (wrg tv (shW P S y)) (P 4)) (P 4) x)
          · rw [if_pos (by rw [hb])]
            by_cases hc : bitsN (wrg tv (shW P S x)) (P 4) < bstN (fun y => bitsN (wrg tv (shW P S y)) (P 4)) (P 4) x
            · rw [if_neg (nI_ge hc (by omega))]
              rw [if_pos (Or.inr ⟨hb, hc⟩)] at r1
              exact r1
            · rw [if_pos (nI_le (by omega) (by omega))]
              rw [if_neg (fun q => by rcases q with q | q; exact ha q; exact hc q.2)] at r1
              exact r1
          · rw [if_neg (fun q => hb ((nI_eq (by omega) (by omega)).mp q))]
            rw [if_neg (fun q => by rcases q with q | q; exact ha q; exact hb q.1)] at r1
            exact r1
theorem X11_wrong_e (a b : Int32) : f_X11_wrong N (Hp m F L T) (some 0) a b = f_X11_wrong_16 N (Hp m F L T) (some 0) a b (some 0) a (bB (!thOk 2 b)) := by
  rcases pk_ix b (n := 2) (by decide) with h | h | ⟨i, hi, rfl⟩
  · simp only [f_X11_wrong, f_X11_wrong_0, f_X11_wrong_11, h, thOk_f (Or.inl h), Bool.not_false, bB_t, if_true]
  · have h1 : ¬ b < 0 := fun q => by
      have e1 := (fa_le _ _).mp h
      have e2 := (fa_lt _ _).mp q
      have e3 : (nI 2).toInt = 2 := by decide
      have e4 : (0 : Int32).toInt = 0 := by decide
      omega
    have h2 : ¬ b ≤ 1 := fun q => by
      have e1 := (fa_le _ _).mp h
      have e2 := (fa_le _ _).mp q
      have e3 : (nI 2).toInt = 2 := by decide
      have e4 : (1 : Int32).toInt = 1 := by decide
      omega
    simp only [f_X11_wrong, f_X11_wrong_0, f_X11_wrong_11, h1, h2, thOk_f (Or.inr h), Bool.not_false, bB_t, if_false]
  · have h1 : ¬ nI i < 0 := nI_pos (by omega)
    have h2 : nI i ≤ 1 := nI_le (a := i) (b := 1) (by omega) (by omega)
    simp only [f_X11_wrong, f_X11_wrong_0, h1, h2, thOk_t hi (show 2 < 2 ^ 31 by decide), Bool.not_true, bB_f, if_true, if_false]
theorem X12_in01b {A : hP} (b : Int32) : f_X12_in N A b.toInt64 (0 : Int64) (1 : Int64) = some (bB (thOk 2 b), A) := by
  rcases pk_ix b (n := 2) (by decide) with h | h | ⟨i, hi, rfl⟩
  · rw [X12_in01n (Or.inl h), thOk_f (Or.inl h)]; rfl
  · rw [X12_in01n (Or.inr h), thOk_f (Or.inr h)]; rfl
  · rw [X12_in01y hi, thOk_t hi (by decide)]; rfl
end WRs
theorem o_wrong (N : Nat) (hN : 5000 ≤ N) (m : Nat) (F : Nat → Nat → Int32) (L : Nat → Nat → Option Nat) (T : Nat → Nat) (hm : m ≤ 3000) (R : Rel m F L T) (a b : Int32) : OpOk (fun A => f_X11_wrong N A (some 0) a b) (fun A => f_X12_wrong N A (some 49) a b) m F L T := by
  obtain ⟨P, pv, pm, pc, sr⟩ := R.2.2.1
  have v3 : P 3 ≤ 4 := pv.2.2.2.1
  have v4 : P 4 ≤ 24 := pv.2.2.2.2.1
  have hp8 := p8_le v3
  have hp24 : 2 ^ P 4 ≤ 2 ^ 24 := Nat.pow_le_pow_right (by decide) v4
  have c5 : F 4 5 = nI (P 4) := pc.2.2.2.2.2.1
  have ex := X11_wrong_e (N := N) (m := m) (F := F) (L := L) (T := T) a b
  rcases tell hN R pv pm pc a (thOk 2 b) with ⟨v, F1, F2, h1, h2, h3, h4, h5, h6⟩ | ⟨hok, hp2, q, hq, rfl, ht, h1, h2⟩
  · refine ⟨v, m, F1, L, T, F2, ?_, ?_, h5, by omega⟩
    · simp only [ex, f_X11_wrong_16, h1, h2, gI_0, gI_2, gI_4, gI_9, gI_15, gI_21, gI_49, gP_0, gP_2, gP_4, gP_9, gP_15, gP_21, gP_49, gR_0, gR_2, gR_4, gR_9, gR_15, gR_21, gR_49, gL_53, gL_54, oPz_0, oPz_1, Option.bind_some, c10, c01, cm1, c00, if_true, if_false, ne_eq, not_true_eq_false, not_false_eq_true]
    · simp only [f_X12_wrong, f_X12_wrong_0, X12_in01b, h4, h3, gI_0, gI_2, gI_4, gI_9, gI_15, gI_21, gI_49, gP_0, gP_2, gP_4, gP_9, gP_15, gP_21, gP_49, gR_0, gR_2, gR_4, gR_9, gR_15, gR_21, gR_49, gL_53, gL_54, oPz_0, oPz_1, Option.bind_some, c10, c01, cm1, c00, if_true, if_false, ne_eq, not_true_eq_false, not_false_eq_true]
  rw [hok] at ex
  have ex' : f_X11_wrong N (Hp m F L T) (some 0) (nI q) b = f_X11_wrong_16 N (Hp m F L T) (some 0) (nI q) b (some 0) (nI q) 0 := ex
  obtain ⟨F1, b1, b2, b3, b4, b5⟩ := C_begin (N := N) hN hq (CV_of pv pc) v4 c5
  obtain ⟨G, g1, g2, g3⟩ := h2 (up2 F1 0 8 0) (by rw [up2_ne (by decide)]; exact b4 50 (by decide) (by decide) (by decide) (by decide) (by decide)) (by rw [up2_ne (by decide)]; exact b4 51 (by decide) (by decide) (by decide) (by decide) (by decide)) (by rw [up2_ne (by decide)]; exact b4 52 (by decide) (by decide) (by decide) (by decide) (by decide)) (fun i _ => by rw [up2_ne (by decide), b4 53 (by decide) (by decide) (by decide) (by decide) (by decide)])
  have mc := MC_of (m := m) pv pm hq hp2 ht b4 g2 g3
  have hfit : (fun y => bitsN (wrg (F1 19) (shW P (setN P) y)) (P 4)) = fun y => bitsN (wrg (F (24 + 2 * q)) (shW P (setN P) y)) (P 4) := funext fun x => bitsN_c (fun t htt => by unfold wrg; rw [b3 t htt])
  generalize hbs : bstN (fun y => bitsN (wrg (F (24 + 2 * q)) (shW P (setN P) y)) (P 4)) (P 4) (8 ^ P 3) = bs
  have hbl : bs < 2 ^ P 4 := by
    rw [← hbs]
    exact bst_lt (fun y => bitsN_lt _ _) _
  obtain ⟨G', r1, r2⟩ := M_wrg_l (N := N) (m := m) (L := L) (T := T) (x2 := b) hN mc N 0 (-1000000) G (fun _ _ => rfl) (Nat.zero_le _) (by omega) (Or.inl ⟨rfl, rfl⟩)
  rw [hbs] at r1
  have r1' : f_X12_wrong_31 N N (Hp m G L T) (some 49) (nI q) b (-1000000) 0 = some (if b = 0 then nI (pcN bs) else nI bs, Hp m G' L T) := r1
  have s1 := C_few_l (N := N) (m := m) (L := L) (T := T) (B := fun y => bitsN (wrg (F (24 + 2 * q)) (shW P (setN P) y)) (P 4)) (fun y => (congrFun hfit y).symm) hN pv b2 N 0 (Nat.zero_le _) (by omega)
  have e0 : pcN (2 ^ P 4 - 1) = P 4 := by rw [← bits_all, pc_cnt v4, cnt_all]
  rw [hbs, bstN, e0] at s1
  have e1 : (1 : Int32) <<< (nI (P 4) &&& 31) - 1 = nI (2 ^ P 4 - 1) := by
    rw [shl1 (by omega)]
    exact pk_sub (a := 2 ^ P 4) (b := 1) (Nat.one_le_two_pow)
  have s1' : f_X10_fewestFalse_16 N N (Hp m F1 L T) (some 15) (nI (2 ^ P 4 - 1)) (nI (P 4)) 0 = some (nI bs, Hp m F1 L T) := s1
  refine ⟨if b = 0 then nI (pcN bs) else nI bs, m, up2 F1 0 8 0, L, T, G', ?_, ?_, R.told b4 b5 ⟨fun p p1 p2 => by rw [r2 p p1]; exact g2.1 p p1 p2, fun k k1 k2 k3 => by rw [r2 49 (by decide)]; exact g2.2 k k1 k2 k3⟩, by omega⟩
  · simp only [ex', f_X11_wrong_16, f_X11_wrong_70, h1, gN_1 hq, gR_r hq, b1, f_X10_fewestFalse, f_X10_fewestFalse_0, b2.2.2.1, e1, s1', C_bitc (show bs < 2 ^ 24 by omega), f_X11_passed, f_X11_passed_0, gI_0, gI_2, gI_4, gI_9, gI_15, gI_21, gI_49, gP_0, gP_2, gP_4, gP_9, gP_15, gP_21, gP_49, gR_0, gR_2, gR_4, gR_9, gR_15, gR_21, gR_49, gL_53, gL_54, oPz_0, oPz_1, Option.bind_some, c10, c01, cm1, c00, if_true, if_false, ne_eq, not_true_eq_false, not_false_eq_true]
    split <;> rfl
  · simp only [f_X12_wrong, f_X12_wrong_0, X12_in01b, hok, bB_t, g1, show ((0 : Int32) ≤ 0) = True from eq_true (by decide), r1', gI_0, gI_2, gI_4, gI_9, gI_15, gI_21, gI_49, gP_0, gP_2, gP_4, gP_9, gP_15, gP_21, gP_49, gR_0, gR_2, gR_4, gR_9, gR_15, gR_21, gR_49, gL_53, gL_54, oPz_0, oPz_1, Option.bind_some, c10, c01, cm1, c00, if_true, if_false, ne_eq, not_true_eq_false, not_false_eq_true]
