/-- what holds at the law's entry: the machine, the code, the tables' words (any of lw_tbl by 'hts w (by decide +kernel)'), the script of L ints xs at the cell b, what the Statement gives of the start (any of its parts by flat_of_before) -/
def lw_At (p : Program) (s : State) (m : MethodId) (meth : Method) (c : Code) (b L : Nat) (xs : Nat → Int32) : Prop :=
  p.tables.exec = Jvm.exec ∧ c.code = code ∧ meth.sig.returnType = ret ∧ c.maxLocals = 4 ∧ s.vm.findClass R_law = some m.cls ∧ (∀ w ∈ lw_tbl, w.before #[Value.ref b] s = true) ∧ va_X b L xs s s.heap ∧ b < s.heap.size ∧ meth.locks = false ∧ (Jvm.Cond.and given_1 narrow_1).before #[Value.ref b] s = true
def st_tm (i : Nat) : Term := .string "YesterdayScale$Tape" ((g_str.getD i (0, "")).1)
set_option maxRecDepth 100000 in
set_option maxHeartbeats 4000000 in
theorem st_ex {args : Array Value} {s : State} (hs : ∀ c ∈ flatC (Jvm.Cond.and given_1 narrow_1), c.before args s = true) : ∀ i : Nat, i < 8 → (Cond.exactly (st_tm i) "java/lang/String").before args s = true
  | 0, _ => hs _ (by decide +kernel)
  | 1, _ => hs _ (by decide +kernel)
  | 2, _ => hs _ (by decide +kernel)
  | 3, _ => hs _ (by decide +kernel)
  | 4, _ => hs _ (by decide +kernel)
  | 5, _ => hs _ (by decide +kernel)
  | 6, _ => hs _ (by decide +kernel)
  | 7, _ => hs _ (by decide +kernel)
  | k + 8, h => absurd h (by omega)
set_option maxRecDepth 100000 in
set_option maxHeartbeats 4000000 in
theorem st_co {args : Array Value} {s : State} (hs : ∀ c ∈ flatC (Jvm.Cond.and given_1 narrow_1), c.before args s = true) : ∀ i : Nat, i < 8 → (Cond.eq (.field (st_tm i) "java/lang/String" "coder" "B") (.int 0)).before args s = true
  | 0, _ => hs _ (by decide +kernel)
  | 1, _ => hs _ (by decide +kernel)
  | 2, _ => hs _ (by decide +kernel)
  | 3, _ => hs _ (by decide +kernel)
  | 4, _ => hs _ (by decide +kernel)
  | 5, _ => hs _ (by decide +kernel)
  | 6, _ => hs _ (by decide +kernel)
  | 7, _ => hs _ (by decide +kernel)
  | k + 8, h => absurd h (by omega)
set_option maxRecDepth 100000 in
set_option maxHeartbeats 4000000 in
theorem st_ar {args : Array Value} {s : State} (hs : ∀ c ∈ flatC (Jvm.Cond.and given_1 narrow_1), c.before args s = true) : ∀ i : Nat, i < 8 → (Cond.arrayOf (.field (st_tm i) "java/lang/String" "value" "[B") .byte).before args s = true
  | 0, _ => hs _ (by decide +kernel)
  | 1, _ => hs _ (by decide +kernel)
  | 2, _ => hs _ (by decide +kernel)
  | 3, _ => hs _ (by decide +kernel)
  | 4, _ => hs _ (by decide +kernel)
  | 5, _ => hs _ (by decide +kernel)
  | 6, _ => hs _ (by decide +kernel)
  | 7, _ => hs _ (by decide +kernel)
  | k + 8, h => absurd h (by omega)
set_option maxRecDepth 100000 in
set_option maxHeartbeats 4000000 in
theorem st_le {args : Array Value} {s : State} (hs : ∀ c ∈ flatC (Jvm.Cond.and given_1 narrow_1), c.before args s = true) : ∀ i : Nat, i < 8 → (Cond.eq (.length (.field (st_tm i) "java/lang/String" "value" "[B")) (.int (Int32.ofNat (g_len.getD i 0)))).before args s = true
  | 0, _ => hs _ (by decide +kernel)
  | 1, _ => hs _ (by decide +kernel)
  | 2, _ => hs _ (by decide +kernel)
  | 3, _ => hs _ (by decide +kernel)
  | 4, _ => hs _ (by decide +kernel)
  | 5, _ => hs _ (by decide +kernel)
  | 6, _ => hs _ (by decide +kernel)
  | 7, _ => hs _ (by decide +kernel)
  | k + 8, h => absurd h (by omega)
set_option maxRecDepth 100000 in
set_option maxHeartbeats 4000000 in
theorem st_e0 {args : Array Value} {s : State} (hs : ∀ c ∈ flatC (Jvm.Cond.and given_1 narrow_1), c.before args s = true) : ∀ j : Nat, j < 3 → (Cond.eq (.elem (.field (st_tm 0) "java/lang/String" "value" "[B") (.int (Int32.ofNat j))) (.int ((g_byt.getD 0 []).getD j 0))).before args s = true
  | 0, _ => hs _ (by decide +kernel)
  | 1, _ => hs _ (by decide +kernel)
  | 2, _ => hs _ (by decide +kernel)
  | k + 3, h => absurd h (by omega)
set_option maxRecDepth 100000 in
set_option maxHeartbeats 4000000 in
theorem st_e1 {args : Array Value} {s : State} (hs : ∀ c ∈ flatC (Jvm.Cond.and given_1 narrow_1), c.before args s = true) : ∀ j : Nat, j < 5 → (Cond.eq (.elem (.field (st_tm 1) "java/lang/String" "value" "[B") (.int (Int32.ofNat j))) (.int ((g_byt.getD 1 []).getD j 0))).before args s = true
  | 0, _ => hs _ (by decide +kernel)
  | 1, _ => hs _ (by decide +kernel)
  | 2, _ => hs _ (by decide +kernel)
  | 3, _ => hs _ (by decide +kernel)
  | 4, _ => hs _ (by decide +kernel)
  | k + 5, h => absurd h (by omega)
set_option maxRecDepth 100000 in
set_option maxHeartbeats 4000000 in
theorem st_e2 {args : Array Value} {s : State} (hs : ∀ c ∈ flatC (Jvm.Cond.and given_1 narrow_1), c.before args s = true) : ∀ j : Nat, j < 4 → (Cond.eq (.elem (.field (st_tm 2) "java/lang/String" "value" "[B") (.int (Int32.ofNat j))) (.int ((g_byt.getD 2 []).getD j 0))).before args s = true
  | 0, _ => hs _ (by decide +kernel)
  | 1, _ => hs _ (by decide +kernel)
  | 2, _ => hs _ (by decide +kernel)
  | 3, _ => hs _ (by decide +kernel)
  | k + 4, h => absurd h (by omega)
set_option maxRecDepth 100000 in
set_option maxHeartbeats 4000000 in
theorem st_e3 {args : Array Value} {s : State} (hs : ∀ c ∈ flatC (Jvm.Cond.and given_1 narrow_1), c.before args s = true) : ∀ j : Nat, j < 4 → (Cond.eq (.elem (.field (st_tm 3) "java/lang/String" "value" "[B") (.int (Int32.ofNat j))) (.int ((g_byt.getD 3 []).getD j 0))).before args s = true
  | 0, _ => hs _ (by decide +kernel)
  | 1, _ => hs _ (by decide +kernel)
  | 2, _ => hs _ (by decide +kernel)
  | 3, _ => hs _ (by decide +kernel)
  | k + 4, h => absurd h (by omega)
set_option maxRecDepth 100000 in
set_option maxHeartbeats 4000000 in
theorem st_e4 {args : Array Value} {s : State} (hs : ∀ c ∈ flatC (Jvm.Cond.and given_1 narrow_1), c.before args s = true) : ∀ j : Nat, j < 4 → (Cond.eq (.elem (.field (st_tm 4) "java/lang/String" "value" "[B") (.int (Int32.ofNat j))) (.int ((g_byt.getD 4 []).getD j 0))).before args s = true
  | 0, _ => hs _ (by decide +kernel)
  | 1, _ => hs _ (by decide +kernel)
  | 2, _ => hs _ (by decide +kernel)
  | 3, _ => hs _ (by decide +kernel)
  | k + 4, h => absurd h (by omega)
set_option maxRecDepth 100000 in
set_option maxHeartbeats 4000000 in
theorem st_e5 {args : Array Value} {s : State} (hs : ∀ c ∈ flatC (Jvm.Cond.and given_1 narrow_1), c.before args s = true) : ∀ j : Nat, j < 5 → (Cond.eq (.elem (.field (st_tm 5) "java/lang/String" "value" "[B") (.int (Int32.ofNat j))) (.int ((g_byt.getD 5 []).getD j 0))).before args s = true
  | 0, _ => hs _ (by decide +kernel)
  | 1, _ => hs _ (by decide +kernel)
  | 2, _ => hs _ (by decide +kernel)
  | 3, _ => hs _ (by decide +kernel)
  | 4, _ => hs _ (by decide +kernel)
  | k + 5, h => absurd h (by omega)
set_option maxRecDepth 100000 in
set_option maxHeartbeats 4000000 in
theorem st_e6 {args : Array Value} {s : State} (hs : ∀ c ∈ flatC (Jvm.Cond.and given_1 narrow_1), c.before args s = true) : ∀ j : Nat, j < 5 → (Cond.eq (.elem (.field (st_tm 6) "java/lang/String" "value" "[B") (.int (Int32.ofNat j))) (.int ((g_byt.getD 6 []).getD j 0))).before args s = true
  | 0, _ => hs _ (by decide +kernel)
  | 1, _ => hs _ (by decide +kernel)
  | 2, _ => hs _ (by decide +kernel)
  | 3, _ => hs _ (by decide +kernel)
  | 4, _ => hs _ (by decide +kernel)
  | k + 5, h => absurd h (by omega)
set_option maxRecDepth 100000 in
set_option maxHeartbeats 4000000 in
theorem st_e7 {args : Array Value} {s : State} (hs : ∀ c ∈ flatC (Jvm.Cond.and given_1 narrow_1), c.before args s = true) : ∀ j : Nat, j < 3 → (Cond.eq (.elem (.field (st_tm 7) "java/lang/String" "value" "[B") (.int (Int32.ofNat j))) (.int ((g_byt.getD 7 []).getD j 0))).before args s = true
  | 0, _ => hs _ (by decide +kernel)
  | 1, _ => hs _ (by decide +kernel)
  | 2, _ => hs _ (by decide +kernel)
  | k + 3, h => absurd h (by omega)
theorem st_el {args : Array Value} {s : State} (hs : ∀ c ∈ flatC (Jvm.Cond.and given_1 narrow_1), c.before args s = true) : ∀ i : Nat, i < 8 → ∀ j : Nat, j < g_len.getD i 0 → (Cond.eq (.elem (.field (st_tm i) "java/lang/String" "value" "[B") (.int (Int32.ofNat j))) (.int ((g_byt.getD i []).getD j 0))).before args s = true
  | 0, _ => st_e0 hs
  | 1, _ => st_e1 hs
  | 2, _ => st_e2 hs
  | 3, _ => st_e3 hs
  | 4, _ => st_e4 hs
  | 5, _ => st_e5 hs
  | 6, _ => st_e6 hs
  | 7, _ => st_e7 hs
  | k + 8, h => absurd h (by omega)
set_option maxRecDepth 100000 in
set_option maxHeartbeats 4000000 in
theorem st_n0 {args : Array Value} {s : State} (hs : ∀ c ∈ flatC (Jvm.Cond.and given_1 narrow_1), c.before args s = true) : ∀ j : Nat, j < 8 → 0 ≠ j → (Cond.not (Cond.eq (st_tm 0) (st_tm j))).before args s = true ∨ (Cond.not (Cond.eq (st_tm j) (st_tm 0))).before args s = true
  | 0, _, h => absurd rfl h
  | 1, _, _ => by first | exact Or.inl (hs _ (by decide +kernel)) | exact Or.inr (hs _ (by decide +kernel))
  | 2, _, _ => by first | exact Or.inl (hs _ (by decide +kernel)) | exact Or.inr (hs _ (by decide +kernel))
  | 3, _, _ => by first | exact Or.inl (hs _ (by decide +kernel)) | exact Or.inr (hs _ (by decide +kernel))
  | 4, _, _ => by first | exact Or.inl (hs _ (by decide +kernel)) | exact Or.inr (hs _ (by decide +kernel))
  | 5, _, _ => by first | exact Or.inl (hs _ (by decide +kernel)) | exact Or.inr (hs _ (by decide +kernel))
  | 6, _, _ => by first | exact Or.inl (hs _ (by decide +kernel)) | exact Or.inr (hs _ (by decide +kernel))
  | 7, _, _ => by first | exact Or.inl (hs _ (by decide +kernel)) | exact Or.inr (hs _ (by decide +kernel))
  | k + 8, h, _ => absurd h (by omega)
set_option maxRecDepth 100000 in
set_option maxHeartbeats 4000000 in
theorem st_n1 {args : Array Value} {s : State} (hs : ∀ c ∈ flatC (Jvm.Cond.and given_1 narrow_1), c.before args s = true) : ∀ j : Nat, j < 8 → 1 ≠ j → (Cond.not (Cond.eq (st_tm 1) (st_tm j))).before args s = true ∨ (Cond.not (Cond.eq (st_tm j) (st_tm 1))).before args s = true
  | 0, _, _ => by first | exact Or.inl (hs _ (by decide +kernel)) | exact Or.inr (hs _ (by decide +kernel))
  | 1, _, h => absurd rfl h
  | 2, _, _ => by first | exact Or.inl (hs _ (by decide +kernel)) | exact Or.inr (hs _ (by decide +kernel))
  | 3, _, _ => by first | exact Or.inl (hs _ (by decide +kernel)) | exact Or.inr (hs _ (by decide +kernel))
  | 4, _, _ => by first | exact Or.inl (hs _ (by decide +kernel)) | exact Or.inr (hs _ (by decide +kernel))
  | 5, _, _ => by first | exact Or.inl (hs _ (by decide +kernel)) | exact Or.inr (hs _ (by decide +kernel))
  | 6, _, _ => by first | exact Or.inl (hs _ (by decide +kernel)) | exact Or.inr (hs _ (by decide +kernel))
  | 7, _, _ => by first | exact Or.inl (hs _ (by decide +kernel)) | exact Or.inr (hs _ (by decide +kernel))
  | k + 8, h, _ => absurd h (by omega)
set_option maxRecDepth 100000 in
set_option maxHeartbeats 4000000 in
theorem st_n2 {args : Array Value} {s : State} (hs : ∀ c ∈ flatC (Jvm.Cond.and given_1 narrow_1), c.before args s = true) : ∀ j : Nat, j < 8 → 2 ≠ j → (Cond.not (Cond.eq (st_tm 2) (st_tm j))).before args s = true ∨ (Cond.not (Cond.eq (st_tm j) (st_tm 2))).before args s = true
  | 0, _, _ => by first | exact Or.inl (hs _ (by decide +kernel)) | exact Or.inr (hs _ (by decide +kernel))
  | 1, _, _ => by first | exact Or.inl (hs _ (by decide +kernel)) | exact Or.inr (hs _ (by decide +kernel))
  | 2, _, h => absurd rfl h
  | 3, _, _ => by first | exact Or.inl (hs _ (by decide +kernel)) | exact Or.inr (hs _ (by decide +kernel))
  | 4, _, _ => by first | exact Or.inl (hs _ (by decide +kernel)) | exact Or.inr (hs _ (by decide +kernel))
  | 5, _, _ => by first | exact Or.inl (hs _ (by decide +kernel)) | exact Or.inr (hs _ (by decide +kernel))
  | 6, _, _ => by first | exact Or.inl (hs _ (by decide +kernel)) | exact Or.inr (hs _ (by decide +kernel))
  | 7, _, _ => by first | exact Or.inl (hs _ (by decide +kernel)) | exact Or.inr (hs _ (by decide +kernel))
  | k + 8, h, _ => absurd h (by omega)
set_option maxRecDepth 100000 in
set_option maxHeartbeats 4000000 in
theorem st_n3 {args : Array Value} {s : State} (hs : ∀ c ∈ flatC (Jvm.Cond.and given_1 narrow_1), c.before args s = true) : ∀ j : Nat, j < 8 → 3 ≠ j → (Cond.not (Cond.eq (st_tm 3) (st_tm j))).before args s = true ∨ (Cond.not (Cond.eq (st_tm j) (st_tm 3))).before args s = true
  | 0, _, _ => by first | exact Or.inl (hs _ (by decide +kernel)) | exact Or.inr (hs _ (by decide +kernel))
  | 1, _, _ => by first | exact Or.inl (hs _ (by decide +kernel)) | exact Or.inr (hs _ (by decide +kernel))
  | 2, _, _ => by first | exact Or.inl (hs _ (by decide +kernel)) | exact Or.inr (hs _ (by decide +kernel))
  | 3, _, h => absurd rfl h
  | 4, _, _ => by first | exact Or.inl (hs _ (by decide +kernel)) | exact Or.inr (hs _ (by decide +kernel))
  | 5, _, _ => by first | exact Or.inl (hs _ (by decide +kernel)) | exact Or.inr (hs _ (by decide +kernel))
  | 6, _, _ => by first | exact Or.inl (hs _ (by decide +kernel)) | exact Or.inr (hs _ (by decide +kernel))
  | 7, _, _ => by first | exact Or.inl (hs _ (by decide +kernel)) | exact Or.inr (hs _ (by decide +kernel))
  | k + 8, h, _ => absurd h (by omega)
set_option maxRecDepth 100000 in
set_option maxHeartbeats 4000000 in
theorem st_n4 {args : Array Value} {s : State} (hs : ∀ c ∈ flatC (Jvm.Cond.and given_1 narrow_1), c.before args s = true) : ∀ j : Nat, j < 8 → 4 ≠ j → (Cond.not (Cond.eq (st_tm 4) (st_tm j))).before args s = true ∨ (Cond.not (Cond.eq (st_tm j) (st_tm 4))).before args s = true
  | 0, _, _ => by first | exact Or.inl (hs _ (by decide +kernel)) | exact Or.inr (hs _ (by decide +kernel))
  | 1, _, _ => by first | exact Or.inl (hs _ (by decide +kernel)) | exact Or.inr (hs _ (by decide +kernel))
  | 2, _, _ => by first | exact Or.inl (hs _ (by decide +kernel)) | exact Or.inr (hs _ (by decide +kernel))
  | 3, _, _ => by first | exact Or.inl (hs _ (by decide +kernel)) | exact Or.inr (hs _ (by decide +kernel))
  | 4, _, h => absurd rfl h
  | 5, _, _ => by first | exact Or.inl (hs _ (by decide +kernel)) | exact Or.inr (hs _ (by decide +kernel))
  | 6, _, _ => by first | exact Or.inl (hs _ (by decide +kernel)) | exact Or.inr (hs _ (by decide +kernel))
  | 7, _, _ => by first | exact Or.inl (hs _ (by decide +kernel)) | exact Or.inr (hs _ (by decide +kernel))
  | k + 8, h, _ => absurd h (by omega)
set_option maxRecDepth 100000 in
set_option maxHeartbeats 4000000 in
theorem st_n5 {args : Array Value} {s : State} (hs : ∀ c ∈ flatC (Jvm.Cond.and given_1 narrow_1), c.before args s = true) : ∀ j : Nat, j < 8 → 5 ≠ j → (Cond.not (Cond.eq (st_tm 5) (st_tm j))).before args s = true ∨ (Cond.not (Cond.eq (st_tm j) (st_tm 5))).before args s = true
  | 0, _, _ => by first | exact Or.inl (hs _ (by decide +kernel)) | exact Or.inr (hs _ (by decide +kernel))
  | 1, _, _ => by first | exact Or.inl (hs _ (by decide +kernel)) | exact Or.inr (hs _ (by decide +kernel))
  | 2, _, _ => by first | exact Or.inl (hs _ (by decide +kernel)) | exact Or.inr (hs _ (by decide +kernel))
  | 3, _, _ => by first | exact Or.inl (hs _ (by decide +kernel)) | exact Or.inr (hs _ (by decide +kernel))
  | 4, _, _ => by first | exact Or.inl (hs _ (by decide +kernel)) | exact Or.inr (hs _ (by decide +kernel))
  | 5, _, h => absurd rfl h
  | 6, _, _ => by first | exact Or.inl (hs _ (by decide +kernel)) | exact Or.inr (hs _ (by decide +kernel))
  | 7, _, _ => by first | exact Or.inl (hs _ (by decide +kernel)) | exact Or.inr (hs _ (by decide +kernel))
  | k + 8, h, _ => absurd h (by omega)
set_option maxRecDepth 100000 in
set_option maxHeartbeats 4000000 in
theorem st_n6 {args : Array Value} {s : State} (hs : ∀ c ∈ flatC (Jvm.Cond.and given_1 narrow_1), c.before args s = true) : ∀ j : Nat, j < 8 → 6 ≠ j → (Cond.not (Cond.eq (st_tm 6) (st_tm j))).before args s = true ∨ (Cond.not (Cond.eq (st_tm j) (st_tm 6))).before args s = true
  | 0, _, _ => by first | exact Or.inl (hs _ (by decide +kernel)) | exact Or.inr (hs _ (by decide +kernel))
  | 1, _, _ => by first | exact Or.inl (hs _ (by decide +kernel)) | exact Or.inr (hs _ (by decide +kernel))
  | 2, _, _ => by first | exact Or.inl (hs _ (by decide +kernel)) | exact Or.inr (hs _ (by decide +kernel))
  | 3, _, _ => by first | exact Or.inl (hs _ (by decide +kernel)) | exact Or.inr (hs _ (by decide +kernel))
  | 4, _, _ => by first | exact Or.inl (hs _ (by decide +kernel)) | exact Or.inr (hs _ (by decide +kernel))
  | 5, _, _ => by first | exact Or.inl (hs _ (by decide +kernel)) | exact Or.inr (hs _ (by decide +kernel))
  | 6, _, h => absurd rfl h
  | 7, _, _ => by first | exact Or.inl (hs _ (by decide +kernel)) | exact Or.inr (hs _ (by decide +kernel))
  | k + 8, h, _ => absurd h (by omega)
set_option maxRecDepth 100000 in
set_option maxHeartbeats 4000000 in
theorem st_n7 {args : Array Value} {s : State} (hs : ∀ c ∈ flatC (Jvm.Cond.and given_1 narrow_1), c.before args s = true) : ∀ j : Nat, j < 8 → 7 ≠ j → (Cond.not (Cond.eq (st_tm 7) (st_tm j))).before args s = true ∨ (Cond.not (Cond.eq (st_tm j) (st_tm 7))).before args s = true
  | 0, _, _ => by first | exact Or.inl (hs _ (by decide +kernel)) | exact Or.inr (hs _ (by decide +kernel))
  | 1, _, _ => by first | exact Or.inl (hs _ (by decide +kernel)) | exact Or.inr (hs _ (by decide +kernel))
  | 2, _, _ => by first | exact Or.inl (hs _ (by decide +kernel)) | exact Or.inr (hs _ (by decide +kernel))
  | 3, _, _ => by first | exact Or.inl (hs _ (by decide +kernel)) | exact Or.inr (hs _ (by decide +kernel))
  | 4, _, _ => by first | exact Or.inl (hs _ (by decide +kernel)) | exact Or.inr (hs _ (by decide +kernel))
  | 5, _, _ => by first | exact Or.inl (hs _ (by decide +kernel)) | exact Or.inr (hs _ (by decide +kernel))
  | 6, _, _ => by first | exact Or.inl (hs _ (by decide +kernel)) | exact Or.inr (hs _ (by decide +kernel))
  | 7, _, h => absurd rfl h
  | k + 8, h, _ => absurd h (by omega)
theorem st_ne {args : Array Value} {s : State} (hs : ∀ c ∈ flatC (Jvm.Cond.and given_1 narrow_1), c.before args s = true) : ∀ i : Nat, i < 8 → ∀ j : Nat, j < 8 → i ≠ j → (Cond.not (Cond.eq (st_tm i) (st_tm j))).before args s = true ∨ (Cond.not (Cond.eq (st_tm j) (st_tm i))).before args s = true
  | 0, _ => st_n0 hs
  | 1, _ => st_n1 hs
  | 2, _ => st_n2 hs
  | 3, _ => st_n3 hs
  | 4, _ => st_n4 hs
  | 5, _ => st_n5 hs
  | 6, _ => st_n6 hs
  | 7, _ => st_n7 hs
  | k + 8, h => absurd h (by omega)
theorem st_ln : ∀ i : Nat, i < 8 → g_len.getD i 0 < 2 ^ 31
  | 0, _ => by decide
  | 1, _ => by decide
  | 2, _ => by decide
  | 3, _ => by decide
  | 4, _ => by decide
  | 5, _ => by decide
  | 6, _ => by decide
  | 7, _ => by decide
  | k + 8, h => absurd h (by omega)
set_option maxRecDepth 100000 in
set_option maxHeartbeats 4000000 in
theorem st_no {args : Array Value} {s : State} (hs : ∀ c ∈ flatC (Jvm.Cond.and given_1 narrow_1), c.before args s = true) : ∀ q ∈ g_no, va_Nc q.1 q.2 s := by
  intro q hq
  have h : ∀ q ∈ g_no, Cond.not (.castable q.1 q.2) ∈ flatC (Jvm.Cond.and given_1 narrow_1) := by decide +kernel
  exact va_Nc.of (hs _ (h q hq))
set_option maxRecDepth 100000 in
set_option maxHeartbeats 4000000 in
theorem st_yes {args : Array Value} {s : State} (hts : ∀ w ∈ lw_tbl, w.before args s = true) : ∀ q ∈ g_yes, va_Nw (.castable q.1 q.2) s := by
  intro q hq
  have h : ∀ q ∈ g_yes, Cond.castable q.1 q.2 ∈ lw_tbl := by decide +kernel
  exact va_Nw.of rfl (hts _ (h q hq))
set_option maxRecDepth 100000 in
set_option maxHeartbeats 4000000 in
theorem st_nest {args : Array Value} {s : State} (hts : ∀ w ∈ lw_tbl, w.before args s = true) : ∀ q ∈ g_nest, va_Nw (.methodLinkNest q.1 q.2.1 q.2.2.1 q.2.2.2) s := by
  intro q hq
  have h : ∀ q ∈ g_nest, Cond.methodLinkNest q.1 q.2.1 q.2.2.1 q.2.2.2 ∈ lw_tbl := by decide +kernel
  exact va_Nw.of rfl (hts _ (h q hq))
set_option maxRecDepth 100000 in
set_option maxHeartbeats 4000000 in
theorem st_str {args : Array Value} {s : State} (hts : ∀ w ∈ lw_tbl, w.before args s = true) : ∀ (i : Nat) (q : Nat × String), g_str[i]? = some q → (Cond.stringRef RX6 q.1 q.2).before args s = true := by
  intro i q hq
  have h : ∀ q ∈ g_str, Cond.stringRef RX6 q.1 q.2 ∈ lw_tbl := by decide +kernel
  exact hts _ (h q (List.mem_of_getElem? hq))
theorem g_nat (x : Int32) : Int32.ofNat x.toBitVec.toNat = x := by
  apply Int32.toBitVec_inj.mp
  simp
def st_sa (adK adV : Nat → Nat) (t b L : Nat) (xs : Nat → Int32) (k : Nat) : Nat := if k < 8 then adK k else if k < 108 then adV (k - 100) else if k = 200 then t else if k = 300 then b else if k = 301 then L else (xs (k - 1000)).toBitVec.toNat
def st_kA (a b c d e f : ClassId) (k : Nat) : ClassId := if k = 0 then a else if k = 1 then b else if k = 2 then c else if k = 3 then d else if k = 4 then e else f
set_option maxRecDepth 100000 in
set_option maxHeartbeats 4000000 in
/-- THE LAW, from its entry, out of the pure statement -/
theorem whole_of (pure : ∀ (L : Nat) (xs : Nat → Int32), L ≤ 3072 → ∃ (N : Nat) (res : Int32 × hP), f_L_law_0 L xs N [] 0 0 = some res) {p : Program} {e : Env} {s : State} {m : MethodId} {below : List Frame} {meth : Method} {c : Code} (l : Launch) {b L : Nat} {xs : Nat → Int32} (hL : L ≤ 3072) (C0 : lw_At p s m meth c b L xs) : W p l e room_1 s m #[Value.ref b] below meth c s.heap [] 0 0 (lw_Z below #[Value.ref b] s) (entryFrame m ([Value.ref b] : List Value).toArray 4) := by
  obtain ⟨hx, hb, hr, hml, hown, hts, hX, hbl, hlocks, hgv⟩ := id C0
  have hs := flat_of_before _ hgv
  obtain ⟨c0, iS0, hKn0⟩ := u_known (C := RX0) (T := TX0) (N := 3) (n := 3) hts (fun w h => (List.mem_filter.mp (tU_X0 w h)).1) (hts _ (List.mem_filter.mp tIns_X0).1)
  obtain ⟨c1, iS1, hKn1⟩ := u_known (C := RX1) (T := TX1) (N := 2) (n := 2) hts (fun w h => (List.mem_filter.mp (tU_X1 w h)).1) (hts _ (List.mem_filter.mp tIns_X1).1)
  obtain ⟨c2, iS2, hKn2⟩ := u_known (C := RX2) (T := TX2) (N := 11) (n := 11) hts (fun w h => (List.mem_filter.mp (tU_X2 w h)).1) (hts _ (List.mem_filter.mp tIns_X2).1)
  obtain ⟨c3, iS3, hKn3⟩ := u_known (C := RX3) (T := TX3) (N := 4) (n := 4) hts (fun w h => (List.mem_filter.mp (tU_X3 w h)).1) (hts _ (List.mem_filter.mp tIns_X3).1)
  obtain ⟨c4, iS4, hKn4⟩ := u_known (C := RX4) (T := TX4) (N := 2) (n := 2) hts (fun w h => (List.mem_filter.mp (tU_X4 w h)).1) (hts _ (List.mem_filter.mp tIns_X4).1)
  obtain ⟨c5, iS5, hKn5⟩ := u_known (C := RX5) (T := TX5) (N := 2) (n := 2) hts (fun w h => (List.mem_filter.mp (tU_X5 w h)).1) (hts _ (List.mem_filter.mp tIns_X5).1)
  obtain ⟨c6, iS6, hKn6⟩ := u_known (C := RX6) (T := TX6) (N := 8) (n := 8) hts (fun w h => (List.mem_filter.mp (tU_X6 w h)).1) (hts _ (List.mem_filter.mp tIns_X6).1)
  obtain ⟨c7, iS7, hKn7⟩ := u_known (C := RX8) (T := TX8) (N := 2) (n := 2) hts (fun w h => (List.mem_filter.mp (tU_X8 w h)).1) (hts _ (List.mem_filter.mp tIns_X8).1)
  obtain ⟨c8, iS8, hKn8⟩ := u_known (C := RX9) (T := TX9) (N := 2) (n := 2) hts (fun w h => (List.mem_filter.mp (tU_X9 w h)).1) (hts _ (List.mem_filter.mp tIns_X9).1)
  obtain ⟨c9, iS9, hKn9⟩ := u_known (C := RX10) (T := TX10) (N := 13) (n := 13) hts (fun w h => (List.mem_filter.mp (tU_X10 w h)).1) (hts _ (List.mem_filter.mp tIns_X10).1)
  obtain ⟨c10, iS10, hKn10⟩ := u_known (C := RX11) (T := TX11) (N := 9) (n := 9) hts (fun w h => (List.mem_filter.mp (tU_X11 w h)).1) (hts _ (List.mem_filter.mp tIns_X11).1)
  obtain ⟨c11, iS11, hKn11⟩ := u_known (C := RX12) (T := TX12) (N := 31) (n := 31) hts (fun w h => (List.mem_filter.mp (tU_X12 w h)).1) (hts _ (List.mem_filter.mp tIns_X12).1)
  obtain ⟨dC, dI, hKc⟩ : ∃ (dC : Nat → ClassId) (dI : Nat → Nat → Nat), ∀ (k : Nat) (q : vw_C), vwCl[k]? = some q → u_Kn s q.1 q.2.1 q.2.2 (dC k) (dI k) := by
    refine ⟨fun k => if k = 0 then c0 else if k = 1 then c1 else if k = 2 then c2 else if k = 3 then c3 else if k = 4 then c4 else if k = 5 then c5 else if k = 6 then c6 else if k = 7 then c7 else if k = 8 then c8 else if k = 9 then c9 else if k = 10 then c10 else c11, fun k => if k = 0 then iS0 else if k = 1 then iS1 else if k = 2 then iS2 else if k = 3 then iS3 else if k = 4 then iS4 else if k = 5 then iS5 else if k = 6 then iS6 else if k = 7 then iS7 else if k = 8 then iS8 else if k = 9 then iS9 else if k = 10 then iS10 else iS11, ?_⟩
    intro k q hq
    match k, hq with
    | 0, hq => cases hq; exact hKn0
    | 1, hq => cases hq; exact hKn1
    | 2, hq => cases hq; exact hKn2
    | 3, hq => cases hq; exact hKn3
    | 4, hq => cases hq; exact hKn4
    | 5, hq => cases hq; exact hKn5
    | 6, hq => cases hq; exact hKn6
    | 7, hq => cases hq; exact hKn7
    | 8, hq => cases hq; exact hKn8
    | 9, hq => cases hq; exact hKn9
    | 10, hq => cases hq; exact hKn10
    | 11, hq => cases hq; exact hKn11
    | k + 12, hq => simp [vwCl] at hq
  obtain ⟨a0, k0, m0, e0, e1, e2⟩ := Cond.arrayClass_spec (hts _ (List.mem_filter.mp tArr_int).1)
  obtain ⟨b0, k1, m1, g0, g1, g2⟩ := Cond.arrayClass_spec (hts _ (List.mem_filter.mp tArr_byte).1)
  obtain ⟨z0, k2, m2, i0, i1, i2⟩ := Cond.arrayClass_spec (hts _ (List.mem_filter.mp tArr_boolean).1)
  have hoR := hts (.arrayOver (.object "YesterdayScale$Row")) (by decide +kernel)
  have hoP := hts (.arrayOver (.object "YesterdayScale$Port")) (by decide +kernel)
  have hoT := hts (.arrayOver (.object "YesterdayScale$Thing")) (by decide +kernel)
  obtain ⟨m3, r0, k3, r1, -, r2, r3, r4⟩ := Cond.arrayOver_spec hoR
  obtain ⟨m4, p0, k4, p1, -, p2, p3, p4⟩ := Cond.arrayOver_spec hoP
  obtain ⟨m5, t0, k5, t1, -, t2, t3, t4⟩ := Cond.arrayOver_spec hoT
  have hA0 : ∀ a : Nat, a < s.heap.size → ¬ (fun q : Nat => s.heap.size ≤ q) a := fun a h => Nat.not_le.mpr h
  obtain ⟨adK, adV, hSt, hTm⟩ := vk_Sof (N := 8) (tm := st_tm) (len := g_len) (byt := g_byt) (A := fun q : Nat => s.heap.size ≤ q) st_ln (st_ex hs) (st_co hs) (st_ar hs) (st_le hs) (st_el hs) (fun i j hi hj hij => st_ne hs i hi j hj hij) hA0
  have hZ1 : va_Z "java/lang/String" "COMPACT_STRINGS" "Z" (.int 1) (fun q : Nat => s.heap.size ≤ q) s s.heap := va_Zof (hts (.laysStatic "java/lang/String" "COMPACT_STRINGS" "Z") (by decide +kernel)) (hts (.initialized "java/lang/String") (by decide +kernel)) (va_eqt (hs _ (by decide +kernel))) hA0
  have hZ2 : va_Zq "jdk/internal/util/Preconditions" "SIOOBE_FORMATTER" "Ljava/util/function/BiFunction;" (fun q : Nat => s.heap.size ≤ q) s s.heap := va_Zqof (hts (.laysStatic "jdk/internal/util/Preconditions" "SIOOBE_FORMATTER" "Ljava/util/function/BiFunction;") (by decide +kernel)) (hts (.initialized "jdk/internal/util/Preconditions") (by decide +kernel)) (hs _ (by decide +kernel)) hA0
  obtain ⟨tf, hZ3⟩ : ∃ tf : Nat, va_Z "jdk/internal/util/Preconditions" "SIOOBE_FORMATTER" "Ljava/util/function/BiFunction;" .null (fun q : Nat => s.heap.size ≤ q) s s.heap ∨ va_Z "jdk/internal/util/Preconditions" "SIOOBE_FORMATTER" "Ljava/util/function/BiFunction;" (.ref tf) (fun q : Nat => s.heap.size ≤ q) s s.heap := by
    rcases hZ2 with h | ⟨t, h⟩
    · exact ⟨0, Or.inl h⟩
    · exact ⟨t, Or.inr h⟩
  obtain ⟨N, res, hpure⟩ := pure L xs hL
  have hsaK : ∀ i : Nat, i < 8 → st_sa adK adV tf b L xs i = adK i := fun i hi => by simp [st_sa, hi]
  have hsaV : ∀ i : Nat, i < 8 → st_sa adK adV tf b L xs (100 + i) = adV i := fun i hi => by
    unfold st_sa
    rw [if_neg (by omega), if_pos (by omega), Nat.add_sub_cancel_left]
  have hsaX : ∀ j : Nat, Int32.ofNat (st_sa adK adV tf b L xs (1000 + j)) = xs j := fun j => by
    unfold st_sa
    rw [if_neg (by omega), if_neg (by omega), if_neg (by omega), if_neg (by omega), if_neg (by omega), Nat.add_sub_cancel_left]
    exact g_nat _
  generalize hG : ((s.heap.size, (dC, dI), st_sa adK adV tf b L xs, st_kA a0 b0 z0 r0 p0 t0) : gS) = G
  have hG1 : G.1 = s.heap.size := by rw [← hG]
  have hK : va_K G.2.1 vwCl (g_ty G) s := by
    rw [← hG]
    refine ⟨hKc, fun k q hk => ?_⟩
    match k, hk with
    | 0, hk => cases hk; exact ⟨fun n z => ⟨fun k h => (by cases h), k0, e1, m0, e2⟩, e0⟩
    | 1, hk => cases hk; exact ⟨fun n z => ⟨fun k h => (by cases h), k1, g1, m1, g2⟩, g0⟩
    | 2, hk => cases hk; exact ⟨fun n z => ⟨fun k h => (by cases h), k2, i1, m2, i2⟩, i0⟩
    | 3, hk => cases hk; exact ⟨fun n z => ⟨fun k h => (by cases h), k3, r2, m3, r3⟩, k3, m3, r2, r3, r1, r4⟩
    | 4, hk => cases hk; exact ⟨fun n z => ⟨fun k h => (by cases h), k4, p2, m4, p3⟩, k4, m4, p2, p3, p1, p4⟩
    | 5, hk => cases hk; exact ⟨fun n z => ⟨fun k h => (by cases h), k5, t2, m5, t3⟩, k5, m5, t2, t3, t1, t4⟩
    | k + 6, hk => simp [g_ty] at hk
  have hO : g_Old G s := by
    rw [← hG]
    refine ⟨⟨va_AO.of hoR, va_AO.of hoP, va_AO.of hoT⟩, st_yes hts, st_no hs, st_nest hts, va_Nw.of rfl (hts _ (by decide +kernel)), fun i q hi => ?_, ⟨fun i hi => ?_, fun i j hi hj hij => ?_⟩, hZ1, hZ3, ?_, hbl, Nat.not_le.mpr hbl⟩
    · have hi8 : i < 8 := (List.getElem?_eq_some_iff.mp hi).1
      have h1 := hTm i hi8
      refine vk_R.of (st_str hts i q hi) ?_
      show _ = some (Value.ref (st_sa adK adV tf b L xs i))
      rw [hsaK i hi8, ← h1]
      unfold st_tm
      rw [List.getD_eq_getElem?_getD, hi]
      rfl
    · have h1 := hSt.1 i hi
      show va_O _ (st_sa adK adV tf b L xs i) _ _ _ ∧ va_OF _ _ _ _ (st_sa adK adV tf b L xs i) _ _ _ ∧ va_OF _ _ _ (.ref (st_sa adK adV tf b L xs (100 + i))) (st_sa adK adV tf b L xs i) _ _ _ ∧ va_T _ (st_sa adK adV tf b L xs (100 + i)) _ _ _ _ _
      rw [hsaK i hi, hsaV i hi]
      exact h1
    · have hij : st_sa adK adV tf b L xs i = st_sa adK adV tf b L xs j := hij
      rw [hsaK i hi, hsaK j hj] at hij
      exact hSt.2 i j hi hj hij
    · obtain ⟨scr, x1, x2, x3, x4, x5⟩ := hX
      exact ⟨scr, x1, x2, x3, x4, fun j hj => (x5 j hj).trans (by show _ = some (Value.int (Int32.ofNat (st_sa adK adV tf b L xs (1000 + j)))); rw [hsaX j])⟩
  have hSc : g_Sc G L xs := by
    rw [← hG]
    exact ⟨rfl, hsaX⟩
  have hsa3 : G.2.2.1 300 = b := by rw [← hG]; rfl
  have key := t_L_law_0 (l := l) (G := G) L xs hSc N [] 0 0 res hpure
  have hl := lv_entry ([.ref b]) (n := 4) (Nat.le_of_ble_eq_true rfl)
  rw [lg_entry_eq]
  generalize (lg_sl ([.ref b]) ++ List.replicate (4 - (lg_sl ([.ref b])).length) Slot.unset).toArray = la at hl ⊢
  have hF : g_F mL_law G p s m #[Value.ref b] meth c := ⟨⟨hx, hb, hr, hml, hown, fun w hw => ?_, hlocks, fun h => absurd h (by decide)⟩, hK, hO, Nat.le_of_eq hG1⟩
  · have hV : g_V 4 G [] s s.heap [] [some (va_rf (some 1000300)), none, none, none] la := by
      refine ⟨fun k q h => by simp [g_ws] at h, by rw [hG1]; rfl, Nat.zero_le _, va_S.rf, hl.1, hl.2.1, fun i v hv => ?_⟩
      match i, hv with
      | 0, hv =>
        cases hv
        rw [show (1000300 : Nat) = 1000000 + 300 from rfl, g_old, hsa3]
        exact hl.2.2 (0, .ref b) List.mem_cons_self
      | 1, hv => cases hv
      | 2, hv => cases hv
      | 3, hv => cases hv
      | k + 4, hv => simp at hv
    have hW := key p e s m #[Value.ref b] below meth c s.heap [] la hF hV
    intro T hT X
    obtain ⟨t, q1, q2⟩ := hW T hT X
    exact ⟨t, q1, q2 (Nat.le_of_eq hG1.symm)⟩
  · rcases List.mem_cons.mp hw with rfl | hw
    · exact hts _ (List.mem_filter.mp tIni_L).1
    · exact hts _ (List.mem_filter.mp hw).1
