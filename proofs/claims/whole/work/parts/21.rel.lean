/-! THE MATHEMATICS. A port as natural numbers, at the reference's places: P 0 keeps, 1 half, 2 top (0: no port), 3 things, 4 days, 5 + 2 t kind, 6 + 2 t weight, 13 + d set. -/
def sumN (f : Nat → Nat) : Nat → Nat
  | 0 => 0
  | n + 1 => sumN f n + f n
def heavyN (kd w d : Nat) : Nat := if kd = 2 then w - d / 3 else if kd = 3 then w + d / 4 else if kd = 5 then 10 * w else w
/-- the load of a day with a set s, things of weights w -/
def loadN (P : Nat → Nat) (s : Nat) (w : Nat → Nat) (d : Nat) : Nat := sumN (fun t => if s.testBit t then heavyN (P (5 + 2 * t)) (w t) d else 0) (P 3)
def anyN (p : Nat → Bool) : Nat → Bool
  | 0 => false
  | n + 1 => anyN p n || p n
def freshN (P : Nat → Nat) (s : Nat) : Bool := anyN (fun t => s.testBit t && decide (P (5 + 2 * t) = 4)) (P 3)
/-- how many days ahead of d still count, if k are kept -/
def rcN (fr : Nat → Bool) : Nat → Nat → Nat
  | 0, _ => 0
  | k + 1, d => if 0 < d ∧ fr d = false then 1 + rcN fr k (d - 1) else 0
/-- what day d shows: sets S, weights w, a law, an error of one on a day (none: 1000) -/
def shN (P : Nat → Nat) (S : Nat → Nat) (w : Nat → Nat) (kp hf er d : Nat) : Nat :=
  sumN (fun k => (loadN P (S (d - k)) w (d - k) + if d - k = er then 1 else 0) >>> (k * hf)) (rcN (fun e => freshN P (S e)) kp d + 1) % P 2
def setN (P : Nat → Nat) : Nat → Nat := fun d => P (13 + d)
def truN (P : Nat → Nat) : Nat → Nat := fun t => P (6 + 2 * t)
def wldN (x : Nat) : Nat → Nat := fun t => x / 8 ^ t % 8
def shT (P : Nat → Nat) (S : Nat → Nat) (d : Nat) : Nat := shN P S (truN P) (P 0) (P 1) 1000 d
def shW (P : Nat → Nat) (S : Nat → Nat) (x d : Nat) : Nat := shN P S (wldN x) (P 0) (P 1) 1000 d
/-- worlds that show what the true weights do on the days up to n -/
def fitT (P : Nat → Nat) (S : Nat → Nat) (n x : Nat) : Prop := ∀ d, d < n → shW P S x d = shT P S d
/-- but one world fits -/
def oneT (P : Nat → Nat) (S : Nat → Nat) (n : Nat) : Prop := ∃ x, x < 8 ^ P 3 ∧ fitT P S n x ∧ ∀ y, y < 8 ^ P 3 → fitT P S n y → y = x
def S1 (P : Nat → Nat) (a : Nat) : Nat → Nat := fun d => if d = P 4 then a else P (13 + d)
def S2 (P : Nat → Nat) (a b : Nat) : Nat → Nat := fun d => if d = P 4 then a else if d = P 4 + 1 then b else P (13 + d)
def no0 (P : Nat → Nat) : Prop := ¬ oneT P (setN P) (P 4)
def no1 (P : Nat → Nat) (n : Nat) : Prop := ∀ a, a < n → ¬ oneT P (S1 P a) (P 4 + 1)
def no2 (P : Nat → Nat) (n : Nat) : Prop := ∀ a b, a < 2 ^ P 3 → b < 2 ^ P 3 → a * 2 ^ P 3 + b < n → ¬ oneT P (S2 P a b) (P 4 + 2)
/-- SOON: how many days more, and their sets -/
def SoonIs (P : Nat → Nat) (d a b : Int32) : Prop :=
  (oneT P (setN P) (P 4) ∧ d = 0) ∨
  (no0 P ∧ ∃ x, x < 2 ^ P 3 ∧ no1 P x ∧ oneT P (S1 P x) (P 4 + 1) ∧ d = 1 ∧ a = nI x) ∨
  (no0 P ∧ no1 P (2 ^ P 3) ∧ ∃ x y, x < 2 ^ P 3 ∧ y < 2 ^ P 3 ∧ no2 P (x * 2 ^ P 3 + y) ∧ oneT P (S2 P x y) (P 4 + 2) ∧ d = 2 ∧ a = nI x ∧ b = nI y) ∨
  (no0 P ∧ no1 P (2 ^ P 3) ∧ no2 P (2 ^ P 3 * 2 ^ P 3) ∧ d = -1000000)
/-! THE RELATION of the two systems -/
def PV (P : Nat → Nat) : Prop := P 0 ≤ 3 ∧ P 1 ≤ 1 ∧ P 2 ≤ 200 ∧ P 3 ≤ 4 ∧ P 4 ≤ 24 ∧ (P 2 = 0 → P 0 = 0 ∧ P 1 = 0 ∧ P 3 = 0 ∧ P 4 = 0) ∧ P 2 ≠ 1 ∧ (∀ i, i < P 3 → 1 ≤ P (5 + 2 * i) ∧ P (5 + 2 * i) ≤ 5 ∧ P (6 + 2 * i) ≤ 7) ∧ ∀ j, j < P 4 → P (13 + j) < 2 ^ P 3
def PM (π : Nat → Int32) (P : Nat → Nat) : Prop := (∀ i, i < 5 → π i = nI (P i)) ∧ (∀ i, i < P 3 → π (5 + 2 * i) = nI (P (5 + 2 * i)) ∧ π (6 + 2 * i) = nI (P (6 + 2 * i))) ∧ ∀ j, j < P 4 → π (13 + j) = nI (P (13 + j))
def clsOf (k : Nat) : Nat := if k = 2 then 1 else if k = 3 then 8 else if k = 4 then 5 else if k = 5 then 7 else 4
def stN (P : Nat → Nat) : Nat := sumN (fun t => if P (5 + 2 * t) = 4 then 2 ^ t else 0) (P 3)
def PT (m : Nat) (F : Nat → Nat → Int32) (L : Nat → Nat → Option Nat) (T : Nat → Nat) (p : Nat) (P : Nat → Nat) : Prop := ∀ i, i < P 3 → ∃ t, L (p + 3) i = some t ∧ 62 ≤ t ∧ t < 62 + m ∧ T t = clsOf (P (5 + 2 * i)) ∧ F t 0 = nI i ∧ F t 1 = nI (P (6 + 2 * i))
def PC (m : Nat) (F : Nat → Nat → Int32) (L : Nat → Nat → Option Nat) (T : Nat → Nat) (p : Nat) (P : Nat → Nat) : Prop :=
  F p 0 = (if P 2 = 0 then 0 else 1) ∧ F p 1 = nI (P 0) ∧ F p 2 = nI (P 1) ∧ F p 3 = nI (P 2) ∧ F p 4 = nI (P 3) ∧ F p 5 = nI (P 4) ∧ F p 6 = nI (stN P) ∧ PT m F L T p P ∧ (∀ j, j < P 4 → F (p + 4) j = nI (P (13 + j))) ∧ ∀ i, i < P 3 → F (p + 2) i = nI (P (6 + 2 * i))
def RowsR (F : Nat → Nat → Int32) : Prop := ∀ r, r < 8 → (F (23 + 2 * r) 0 = 0 ∧ F 50 r = -1 ∨ F (23 + 2 * r) 0 = 1 ∧ F 50 r = F (23 + 2 * r) 1 ∧ (F 50 r = 0 ∨ F 50 r = 1 ∨ F 50 r = 2)) ∧ F 51 r = F (23 + 2 * r) 2 ∧ (∃ n, n ≤ 40 ∧ F 51 r = nI n) ∧ ∀ i, i < 40 → F 52 (40 * r + i) = F (24 + 2 * r) i
def TapeR (F : Nat → Nat → Int32) : Prop := ∃ n, n ≤ 400 ∧ F 2 1 = nI n ∧ F 49 8 = nI n ∧ ∀ i, i < n → ∃ b, b < 256 ∧ F 55 i = nI b ∧ F 3 i = (nI b).toInt8.toInt32
def SoonR (F : Nat → Nat → Int32) (P : Nat → Nat) : Prop := F 15 1 = 0 ∨ F 15 1 = 1 ∧ SoonIs P (F 15 0) (F 15 2) (F 15 3)
def CurR (m : Nat) (F : Nat → Nat → Int32) (L : Nat → Nat → Option Nat) (T : Nat → Nat) : Prop := ∃ P, PV P ∧ PM (F 53) P ∧ PC m F L T 4 P ∧ SoonR F P
/-- what a row of things may hold: nothing, or a thing -/
def OkL (m : Nat) (L : Nat → Nat → Option Nat) (T : Nat → Nat) : Prop := ∀ p, (p = 7 ∨ p = 12 ∨ p = 42 ∨ p = 47) → ∀ i, i < 4 → L p i = none ∨ ∃ t, L p i = some t ∧ 62 ≤ t ∧ t < 62 + m ∧ isTh (T t) = true
def ImgR (m : Nat) (F : Nat → Nat → Int32) (L : Nat → Nat → Option Nat) (T : Nat → Nat) : Prop := OkL m L T ∧ ∀ k, k < 2 → (F 59 k = 0 ∧ F (39 + 5 * k) 0 = 0) ∨ (F 59 k = 1 ∧ ∃ P, PV P ∧ P 2 ≠ 0 ∧ PM (fun i => F 60 (39 * k + i)) P ∧ PC m F L T (39 + 5 * k) P)
def TraR (F : Nat → Nat → Int32) : Prop := ∃ n, n ≤ 16 ∧ F 21 0 = nI n ∧ F 49 30 = nI n ∧ ∀ i, i < n → F 22 i = F 61 i
def Rel (m : Nat) (F : Nat → Nat → Int32) (L : Nat → Nat → Option Nat) (T : Nat → Nat) : Prop := RowsR F ∧ TapeR F ∧ CurR m F L T ∧ ImgR m F L T ∧ F 0 7 = F 49 9 ∧ F 0 8 = F 49 1 ∧ TraR F
/-- a call on both: the same answer, and the relation again -/
def OpOk (fx fm : hP → Option (Int32 × hP)) (m : Nat) (F : Nat → Nat → Int32) (L : Nat → Nat → Option Nat) (T : Nat → Nat) : Prop :=
  ∃ (a : Int32) (m' : Nat) (F1 : Nat → Nat → Int32) (L1 : Nat → Nat → Option Nat) (T1 : Nat → Nat) (F2 : Nat → Nat → Int32), fx (Hp m F L T) = some (a, Hp m' F1 L1 T1) ∧ fm (Hp m' F1 L1 T1) = some (a, Hp m' F2 L1 T1) ∧ Rel m' F2 L1 T1 ∧ m' ≤ m + 4
-- which labels each part of the relation reads
theorem RowsR.same {F G : Nat → Nat → Int32} (h : RowsR F) (e : ∀ p, (23 ≤ p ∧ p ≤ 38 ∨ 50 ≤ p ∧ p ≤ 52) → G p = F p) : RowsR G := by
  intro r hr
  have h1 := h r hr
  rw [e (23 + 2 * r) (by omega), e (24 + 2 * r) (by omega), e 50 (by omega), e 51 (by omega), e 52 (by omega)]
  exact h1
theorem TapeR.same {F G : Nat → Nat → Int32} (h : TapeR F) (e1 : G 2 1 = F 2 1) (e2 : G 49 8 = F 49 8) (e3 : G 55 = F 55) (e4 : G 3 = F 3) : TapeR G := by
  unfold TapeR
  rw [e1, e2, e3, e4]
  exact h
theorem PC.same {m : Nat} {F G : Nat → Nat → Int32} {L : Nat → Nat → Option Nat} {T : Nat → Nat} {p : Nat} {P : Nat → Nat} (h : PC m F L T p P) (e1 : G p = F p) (e2 : ∀ t, 62 ≤ t → G t = F t) (e3 : ∀ j, j < P 4 → G (p + 4) j = F (p + 4) j) (e4 : G (p + 2) = F (p + 2)) : PC m G L T p P := by
  obtain ⟨h0, h1, h2, h3, h4, h5, h6, h7, h8, h9⟩ := h
  unfold PC
  rw [e1]
  refine ⟨h0, h1, h2, h3, h4, h5, h6, fun i hi => ?_, fun j hj => (e3 j hj).trans (h8 j hj), fun i hi => by rw [e4]; exact h9 i hi⟩
  obtain ⟨t, q1, q2, q3, q4, q5, q6⟩ := h7 i hi
  exact ⟨t, q1, q2, q3, q4, by rw [e2 t q2]; exact q5, by rw [e2 t q2]; exact q6⟩
theorem CurR.same {m : Nat} {F G : Nat → Nat → Int32} {L : Nat → Nat → Option Nat} {T : Nat → Nat} (h : CurR m F L T) (e1 : G 4 = F 4) (e2 : G 8 = F 8) (ew : G 6 = F 6) (e3 : G 15 0 = F 15 0 ∧ G 15 1 = F 15 1 ∧ G 15 2 = F 15 2 ∧ G 15 3 = F 15 3) (e4 : G 53 = F 53) (e5 : ∀ t, 62 ≤ t → G t = F t) : CurR m G L T := by
  obtain ⟨P, h1, h2, h3, h4⟩ := h
  refine ⟨P, h1, by rw [e4]; exact h2, h3.same e1 e5 (fun j _ => by rw [e2]) ew, ?_⟩
  unfold SoonR
  rw [e3.1, e3.2.1, e3.2.2.1, e3.2.2.2]
  exact h4
theorem ImgR.same {m : Nat} {F G : Nat → Nat → Int32} {L : Nat → Nat → Option Nat} {T : Nat → Nat} (h : ImgR m F L T) (e1 : ∀ p, (39 ≤ p ∧ p ≤ 48 ∨ p = 59 ∨ p = 60 ∨ 62 ≤ p) → G p = F p) : ImgR m G L T := by
  refine ⟨h.1, fun k hk => ?_⟩
  rcases h.2 k hk with ⟨a, b⟩ | ⟨a, P, b, c, d, e⟩
  · left
    rw [e1 59 (by omega), e1 (39 + 5 * k) (by omega)]
    exact ⟨a, b⟩
  · right
    rw [e1 59 (by omega), e1 60 (by omega)]
    exact ⟨a, P, b, c, d, e.same (e1 _ (by omega)) (fun t ht => e1 t (by omega)) (fun j _ => by rw [e1 _ (by omega)]) (e1 _ (by omega))⟩
theorem TraR.same {F G : Nat → Nat → Int32} (h : TraR F) (e1 : G 21 0 = F 21 0) (e2 : G 49 30 = F 49 30) (e3 : G 22 = F 22) (e4 : G 61 = F 61) : TraR G := by
  unfold TraR
  rw [e1, e2, e3, e4]
  exact h
theorem up2_ne {F : Nat → Nat → Int32} {p k q : Nat} {v : Int32} (h : q ≠ p) : up2 F p k v q = F q := if_neg h
theorem up2_s (F : Nat → Nat → Int32) (p k : Nat) (v : Int32) : up2 F p k v p k = v := by simp [up2, up, upd]
theorem up2_o {F : Nat → Nat → Int32} {p k j : Nat} {v : Int32} (h : j ≠ k) : up2 F p k v p j = F p j := by simp [up2, up, upd, h]
-- small things that both sides use
def bI (p : Prop) [Decidable p] : Int32 := if p then 1 else 0
theorem bI_0 {p : Prop} [Decidable p] : bI p = 0 ↔ ¬ p := by unfold bI; split <;> simp_all
theorem bI_or (p : Prop) [Decidable p] : bI p = 0 ∨ bI p = 1 := by unfold bI; split <;> simp
theorem X12_in (N : Nat) (A : hP) (a b c : Int64) : f_X12_in N A a b c = some (bI (b ≤ a ∧ a ≤ c), A) := by
  have e1 : lg_cmp a b < 0 ↔ a < b := by
    unfold lg_cmp
    split
    · rename_i h
      constructor
      · intro q; exact absurd q (by decide)
      · intro q; exact absurd (Int64.lt_asymm h q) (by simp)
    · split
      · rename_i h h2; subst h2
        constructor
        · intro q; exact absurd q (by decide)
        · intro q; exact absurd q (Int64.lt_irrefl)
      · rename_i h h2
        constructor
        · intro _; rcases Int64.lt_or_le a b with q | q
          · exact q
          · rcases Int64.lt_or_eq_of_le q with q | q
            · exact absurd q h
            · exact absurd q.symm h2
        · intro _; decide
  have e2 : 0 < lg_cmp a c ↔ c < a := by
    unfold lg_cmp
    split
    · rename_i h
      exact ⟨fun _ => h, fun _ => by decide⟩
    · split
      · rename_i h h2; subst h2
        constructor
        · intro q; exact absurd q (by decide)
        · intro q; exact absurd q (Int64.lt_irrefl)
      · rename_i h h2
        constructor
        · intro q; exact absurd q (by decide)
        · intro q; exact absurd q h
  unfold f_X12_in f_X12_in_0 f_X12_in_17 f_X12_in_18
  simp only [e1, e2]
  unfold bI
  by_cases h1 : a < b
  · have : ¬ (b ≤ a ∧ a ≤ c) := fun q => absurd q.1 (Int64.not_le.mpr h1)
    simp [h1, this]
  · by_cases h2 : c < a
    · have : ¬ (b ≤ a ∧ a ≤ c) := fun q => absurd q.2 (Int64.not_le.mpr h2)
      simp [h1, h2, this]
    · have : b ≤ a ∧ a ≤ c := ⟨Int64.not_lt.mp h1, Int64.not_lt.mp h2⟩
      simp [h1, h2, this]
