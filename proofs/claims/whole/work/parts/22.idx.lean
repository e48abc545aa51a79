section TN
variable {m : Nat} {F : Nat → Nat → Int32} {L : Nat → Nat → Option Nat} {T : Nat → Nat}
theorem gN_8 {j : Nat} (h : j < 26) : (oA (Hp m F L T) (some 8) 0 (nI j) = some (F 8 j)) ∧ ∀ x : Int32, oS (Hp m F L T) (some 8) 0 (nI j) x = some (Hp m (up2 F 8 j x) L T) := by
  have h1 := nI_in (N := 26) h (by decide)
  have h2 : (nI j).toNatClampNeg = j := nI_clamp (by omega)
  refine ⟨?_, fun x => ?_⟩
  · rw [(gA_8 (x := 0)).1, if_neg h1, h2]
  · rw [gA_8.2.1, if_neg h1, h2]
theorem gN_13 {j : Nat} (h : j < 26) : (oA (Hp m F L T) (some 13) 0 (nI j) = some (F 13 j)) ∧ ∀ x : Int32, oS (Hp m F L T) (some 13) 0 (nI j) x = some (Hp m (up2 F 13 j x) L T) := by
  have h1 := nI_in (N := 26) h (by decide)
  have h2 : (nI j).toNatClampNeg = j := nI_clamp (by omega)
  refine ⟨?_, fun x => ?_⟩
  · rw [(gA_13 (x := 0)).1, if_neg h1, h2]
  · rw [gA_13.2.1, if_neg h1, h2]
theorem gN_16 {j : Nat} (h : j < 1664) : (oA (Hp m F L T) (some 16) 0 (nI j) = some (F 16 j)) ∧ ∀ x : Int32, oS (Hp m F L T) (some 16) 0 (nI j) x = some (Hp m (up2 F 16 j x) L T) := by
  have h1 := nI_in (N := 1664) h (by decide)
  have h2 : (nI j).toNatClampNeg = j := nI_clamp (by omega)
  refine ⟨?_, fun x => ?_⟩
  · rw [(gA_16 (x := 0)).1, if_neg h1, h2]
  · rw [gA_16.2.1, if_neg h1, h2]
theorem gN_17 {j : Nat} (h : j < 1664) : (oA (Hp m F L T) (some 17) 0 (nI j) = some (F 17 j)) ∧ ∀ x : Int32, oS (Hp m F L T) (some 17) 0 (nI j) x = some (Hp m (up2 F 17 j x) L T) := by
  have h1 := nI_in (N := 1664) h (by decide)
  have h2 : (nI j).toNatClampNeg = j := nI_clamp (by omega)
  refine ⟨?_, fun x => ?_⟩
  · rw [(gA_17 (x := 0)).1, if_neg h1, h2]
  · rw [gA_17.2.1, if_neg h1, h2]
theorem gN_18 {j : Nat} (h : j < 26) : (oA (Hp m F L T) (some 18) 0 (nI j) = some (F 18 j)) ∧ ∀ x : Int32, oS (Hp m F L T) (some 18) 0 (nI j) x = some (Hp m (up2 F 18 j x) L T) := by
  have h1 := nI_in (N := 26) h (by decide)
  have h2 : (nI j).toNatClampNeg = j := nI_clamp (by omega)
  refine ⟨?_, fun x => ?_⟩
  · rw [(gA_18 (x := 0)).1, if_neg h1, h2]
  · rw [gA_18.2.1, if_neg h1, h2]
theorem gN_19 {j : Nat} (h : j < 24) : (oA (Hp m F L T) (some 19) 0 (nI j) = some (F 19 j)) ∧ ∀ x : Int32, oS (Hp m F L T) (some 19) 0 (nI j) x = some (Hp m (up2 F 19 j x) L T) := by
  have h1 := nI_in (N := 24) h (by decide)
  have h2 : (nI j).toNatClampNeg = j := nI_clamp (by omega)
  refine ⟨?_, fun x => ?_⟩
  · rw [(gA_19 (x := 0)).1, if_neg h1, h2]
  · rw [gA_19.2.1, if_neg h1, h2]
theorem gN_20 {j : Nat} (h : j < 4096) : (oA (Hp m F L T) (some 20) 0 (nI j) = some (F 20 j)) ∧ ∀ x : Int32, oS (Hp m F L T) (some 20) 0 (nI j) x = some (Hp m (up2 F 20 j x) L T) := by
  have h1 := nI_in (N := 4096) h (by decide)
  have h2 : (nI j).toNatClampNeg = j := nI_clamp (by omega)
  refine ⟨?_, fun x => ?_⟩
  · rw [(gA_20 (x := 0)).1, if_neg h1, h2]
  · rw [gA_20.2.1, if_neg h1, h2]
theorem gN_22 {j : Nat} (h : j < 16) : (oA (Hp m F L T) (some 22) 0 (nI j) = some (F 22 j)) ∧ ∀ x : Int32, oS (Hp m F L T) (some 22) 0 (nI j) x = some (Hp m (up2 F 22 j x) L T) := by
  have h1 := nI_in (N := 16) h (by decide)
  have h2 : (nI j).toNatClampNeg = j := nI_clamp (by omega)
  refine ⟨?_, fun x => ?_⟩
  · rw [(gA_22 (x := 0)).1, if_neg h1, h2]
  · rw [gA_22.2.1, if_neg h1, h2]
theorem gN_43 {j : Nat} (h : j < 26) : (oA (Hp m F L T) (some 43) 0 (nI j) = some (F 43 j)) ∧ ∀ x : Int32, oS (Hp m F L T) (some 43) 0 (nI j) x = some (Hp m (up2 F 43 j x) L T) := by
  have h1 := nI_in (N := 26) h (by decide)
  have h2 : (nI j).toNatClampNeg = j := nI_clamp (by omega)
  refine ⟨?_, fun x => ?_⟩
  · rw [(gA_43 (x := 0)).1, if_neg h1, h2]
  · rw [gA_43.2.1, if_neg h1, h2]
theorem gN_48 {j : Nat} (h : j < 26) : (oA (Hp m F L T) (some 48) 0 (nI j) = some (F 48 j)) ∧ ∀ x : Int32, oS (Hp m F L T) (some 48) 0 (nI j) x = some (Hp m (up2 F 48 j x) L T) := by
  have h1 := nI_in (N := 26) h (by decide)
  have h2 : (nI j).toNatClampNeg = j := nI_clamp (by omega)
  refine ⟨?_, fun x => ?_⟩
  · rw [(gA_48 (x := 0)).1, if_neg h1, h2]
  · rw [gA_48.2.1, if_neg h1, h2]
theorem gN_50 {j : Nat} (h : j < 8) : (oA (Hp m F L T) (some 50) 0 (nI j) = some (F 50 j)) ∧ ∀ x : Int32, oS (Hp m F L T) (some 50) 0 (nI j) x = some (Hp m (up2 F 50 j x) L T) := by
  have h1 := nI_in (N := 8) h (by decide)
  have h2 : (nI j).toNatClampNeg = j := nI_clamp (by omega)
  refine ⟨?_, fun x => ?_⟩
  · rw [(gA_50 (x := 0)).1, if_neg h1, h2]
  · rw [gA_50.2.1, if_neg h1, h2]
theorem gN_51 {j : Nat} (h : j < 8) : (oA (Hp m F L T) (some 51) 0 (nI j) = some (F 51 j)) ∧ ∀ x : Int32, oS (Hp m F L T) (some 51) 0 (nI j) x = some (Hp m (up2 F 51 j x) L T) := by
  have h1 := nI_in (N := 8) h (by decide)
  have h2 : (nI j).toNatClampNeg = j := nI_clamp (by omega)
  refine ⟨?_, fun x => ?_⟩
  · rw [(gA_51 (x := 0)).1, if_neg h1, h2]
  · rw [gA_51.2.1, if_neg h1, h2]
theorem gN_52 {j : Nat} (h : j < 320) : (oA (Hp m F L T) (some 52) 0 (nI j) = some (F 52 j)) ∧ ∀ x : Int32, oS (Hp m F L T) (some 52) 0 (nI j) x = some (Hp m (up2 F 52 j x) L T) := by
  have h1 := nI_in (N := 320) h (by decide)
  have h2 : (nI j).toNatClampNeg = j := nI_clamp (by omega)
  refine ⟨?_, fun x => ?_⟩
  · rw [(gA_52 (x := 0)).1, if_neg h1, h2]
  · rw [gA_52.2.1, if_neg h1, h2]
theorem gN_53 {j : Nat} (h : j < 39) : (oA (Hp m F L T) (some 53) 0 (nI j) = some (F 53 j)) ∧ ∀ x : Int32, oS (Hp m F L T) (some 53) 0 (nI j) x = some (Hp m (up2 F 53 j x) L T) := by
  have h1 := nI_in (N := 39) h (by decide)
  have h2 : (nI j).toNatClampNeg = j := nI_clamp (by omega)
  refine ⟨?_, fun x => ?_⟩
  · rw [(gA_53 (x := 0)).1, if_neg h1, h2]
  · rw [gA_53.2.1, if_neg h1, h2]
theorem gN_54 {j : Nat} (h : j < 39) : (oA (Hp m F L T) (some 54) 0 (nI j) = some (F 54 j)) ∧ ∀ x : Int32, oS (Hp m F L T) (some 54) 0 (nI j) x = some (Hp m (up2 F 54 j x) L T) := by
  have h1 := nI_in (N := 39) h (by decide)
  have h2 : (nI j).toNatClampNeg = j := nI_clamp (by omega)
  refine ⟨?_, fun x => ?_⟩
  · rw [(gA_54 (x := 0)).1, if_neg h1, h2]
  · rw [gA_54.2.1, if_neg h1, h2]
theorem gN_55 {j : Nat} (h : j < 400) : (oA (Hp m F L T) (some 55) 0 (nI j) = some (F 55 j)) ∧ ∀ x : Int32, oS (Hp m F L T) (some 55) 0 (nI j) x = some (Hp m (up2 F 55 j x) L T) := by
  have h1 := nI_in (N := 400) h (by decide)
  have h2 : (nI j).toNatClampNeg = j := nI_clamp (by omega)
  refine ⟨?_, fun x => ?_⟩
  · rw [(gA_55 (x := 0)).1, if_neg h1, h2]
  · rw [gA_55.2.1, if_neg h1, h2]
theorem gN_56 {j : Nat} (h : j < 4) : (oA (Hp m F L T) (some 56) 0 (nI j) = some (F 56 j)) ∧ ∀ x : Int32, oS (Hp m F L T) (some 56) 0 (nI j) x = some (Hp m (up2 F 56 j x) L T) := by
  have h1 := nI_in (N := 4) h (by decide)
  have h2 : (nI j).toNatClampNeg = j := nI_clamp (by omega)
  refine ⟨?_, fun x => ?_⟩
  · rw [(gA_56 (x := 0)).1, if_neg h1, h2]
  · rw [gA_56.2.1, if_neg h1, h2]
theorem gN_57 {j : Nat} (h : j < 4096) : (oA (Hp m F L T) (some 57) 0 (nI j) = some (F 57 j)) ∧ ∀ x : Int32, oS (Hp m F L T) (some 57) 0 (nI j) x = some (Hp m (up2 F 57 j x) L T) := by
  have h1 := nI_in (N := 4096) h (by decide)
  have h2 : (nI j).toNatClampNeg = j := nI_clamp (by omega)
  refine ⟨?_, fun x => ?_⟩
  · rw [(gA_57 (x := 0)).1, if_neg h1, h2]
  · rw [gA_57.2.1, if_neg h1, h2]
theorem gN_58 {j : Nat} (h : j < 26) : (oA (Hp m F L T) (some 58) 0 (nI j) = some (F 58 j)) ∧ ∀ x : Int32, oS (Hp m F L T) (some 58) 0 (nI j) x = some (Hp m (up2 F 58 j x) L T) := by
  have h1 := nI_in (N := 26) h (by decide)
  have h2 : (nI j).toNatClampNeg = j := nI_clamp (by omega)
  refine ⟨?_, fun x => ?_⟩
  · rw [(gA_58 (x := 0)).1, if_neg h1, h2]
  · rw [gA_58.2.1, if_neg h1, h2]
theorem gN_60 {j : Nat} (h : j < 78) : (oA (Hp m F L T) (some 60) 0 (nI j) = some (F 60 j)) ∧ ∀ x : Int32, oS (Hp m F L T) (some 60) 0 (nI j) x = some (Hp m (up2 F 60 j x) L T) := by
  have h1 := nI_in (N := 78) h (by decide)
  have h2 : (nI j).toNatClampNeg = j := nI_clamp (by omega)
  refine ⟨?_, fun x => ?_⟩
  · rw [(gA_60 (x := 0)).1, if_neg h1, h2]
  · rw [gA_60.2.1, if_neg h1, h2]
theorem gN_61 {j : Nat} (h : j < 16) : (oA (Hp m F L T) (some 61) 0 (nI j) = some (F 61 j)) ∧ ∀ x : Int32, oS (Hp m F L T) (some 61) 0 (nI j) x = some (Hp m (up2 F 61 j x) L T) := by
  have h1 := nI_in (N := 16) h (by decide)
  have h2 : (nI j).toNatClampNeg = j := nI_clamp (by omega)
  refine ⟨?_, fun x => ?_⟩
  · rw [(gA_61 (x := 0)).1, if_neg h1, h2]
  · rw [gA_61.2.1, if_neg h1, h2]
theorem gN_3 {j : Nat} (h : j < 400) : (oA (Hp m F L T) (some 3) 1 (nI j) = some (F 3 j)) ∧ ∀ x : Int32, oS (Hp m F L T) (some 3) 1 (nI j) x = some (Hp m (up2 F 3 j x) L T) := by
  have h1 := nI_in (N := 400) h (by decide)
  have h2 : (nI j).toNatClampNeg = j := nI_clamp (by omega)
  refine ⟨?_, fun x => ?_⟩
  · rw [(gA_3 (x := 0)).1, if_neg h1, h2]
  · rw [gA_3.2, if_neg h1, h2]
theorem gN_59 {j : Nat} (h : j < 2) : (oA (Hp m F L T) (some 59) 2 (nI j) = some (F 59 j)) ∧ ∀ x : Int32, oS (Hp m F L T) (some 59) 2 (nI j) x = some (Hp m (up2 F 59 j x) L T) := by
  have h1 := nI_in (N := 2) h (by decide)
  have h2 : (nI j).toNatClampNeg = j := nI_clamp (by omega)
  refine ⟨?_, fun x => ?_⟩
  · rw [(gA_59 (x := 0)).1, if_neg h1, h2]
  · rw [gA_59.2, if_neg h1, h2]
theorem gN_6 {j : Nat} (h : j < 4) : (oA (Hp m F L T) (some 6) 0 (nI j) = some (F 6 j)) ∧ ∀ x : Int32, oS (Hp m F L T) (some 6) 0 (nI j) x = some (Hp m (up2 F 6 j x) L T) := by
  have h1 := nI_in (N := 4) h (by decide)
  have h2 : (nI j).toNatClampNeg = j := nI_clamp (by omega)
  refine ⟨?_, fun x => ?_⟩
  · rw [(gA_6 (x := 0)).1, if_neg h1, h2]
  · rw [gA_6.2.1, if_neg h1, h2]
theorem gN_r {r j : Nat} (hr : r < 8) (h : j < 40) : (oA (Hp m F L T) (some (24 + 2 * r)) 0 (nI j) = some (F (24 + 2 * r) j)) ∧ ∀ x : Int32, oS (Hp m F L T) (some (24 + 2 * r)) 0 (nI j) x = some (Hp m (up2 F (24 + 2 * r) j x) L T) := by
  have h1 := nI_in (N := 40) h (by decide)
  have h2 : (nI j).toNatClampNeg = j := nI_clamp (by omega)
  refine ⟨?_, fun x => ?_⟩
  · rw [(gA_r (x := 0) hr).1, if_neg h1, h2]
  · rw [(gA_r hr).2, if_neg h1, h2]
theorem gN_1 {r : Nat} (hr : r < 8) : oQ (Hp m F L T) (some 1) 3 (nI r) = some (some (23 + 2 * r)) := by
  rw [gQ_1, if_neg (nI_in (N := 8) hr (by decide)), nI_clamp (by omega), rowsF_s r hr]
theorem gN_7 {j : Nat} (h : j < 4) : oQ (Hp m F L T) (some 7) 5 (nI j) = some (L 7 j) := by
  rw [(gQ_7 (v := none)).1, if_neg (nI_in (N := 4) h (by decide)), nI_clamp (by omega)]
theorem gN_14 {k : Nat} (h : k < 2) : oQ (Hp m F L T) (some 14) 4 (nI k) = some (some (39 + 5 * k)) := by
  rw [gQ_14, if_neg (nI_in (N := 2) h (by decide)), nI_clamp (by omega)]
  match k, h with
  | 0, _ => rfl
  | 1, _ => rfl
theorem gL_53 : oA (Hp m F L T) (some 53) 0 (0 : Int32) = some (F 53 0) ∧ oA (Hp m F L T) (some 53) 0 (1 : Int32) = some (F 53 1) ∧ oA (Hp m F L T) (some 53) 0 (2 : Int32) = some (F 53 2) ∧ oA (Hp m F L T) (some 53) 0 (3 : Int32) = some (F 53 3) ∧ oA (Hp m F L T) (some 53) 0 (4 : Int32) = some (F 53 4) ∧ (∀ x : Int32, oS (Hp m F L T) (some 53) 0 (0 : Int32) x = some (Hp m (up2 F 53 0 x) L T)) ∧ (∀ x : Int32, oS (Hp m F L T) (some 53) 0 (1 : Int32) x = some (Hp m (up2 F 53 1 x) L T)) ∧ (∀ x : Int32, oS (Hp m F L T) (some 53) 0 (2 : Int32) x = some (Hp m (up2 F 53 2 x) L T)) ∧ (∀ x : Int32, oS (Hp m F L T) (some 53) 0 (3 : Int32) x = some (Hp m (up2 F 53 3 x) L T)) ∧ (∀ x : Int32, oS (Hp m F L T) (some 53) 0 (4 : Int32) x = some (Hp m (up2 F 53 4 x) L T)) := ⟨(gN_53 (j := 0) (by decide)).1, (gN_53 (j := 1) (by decide)).1, (gN_53 (j := 2) (by decide)).1, (gN_53 (j := 3) (by decide)).1, (gN_53 (j := 4) (by decide)).1, (gN_53 (j := 0) (by decide)).2, (gN_53 (j := 1) (by decide)).2, (gN_53 (j := 2) (by decide)).2, (gN_53 (j := 3) (by decide)).2, (gN_53 (j := 4) (by decide)).2⟩
theorem gL_54 : oA (Hp m F L T) (some 54) 0 (0 : Int32) = some (F 54 0) ∧ oA (Hp m F L T) (some 54) 0 (1 : Int32) = some (F 54 1) ∧ oA (Hp m F L T) (some 54) 0 (2 : Int32) = some (F 54 2) ∧ oA (Hp m F L T) (some 54) 0 (3 : Int32) = some (F 54 3) ∧ oA (Hp m F L T) (some 54) 0 (4 : Int32) = some (F 54 4) ∧ (∀ x : Int32, oS (Hp m F L T) (some 54) 0 (0 : Int32) x = some (Hp m (up2 F 54 0 x) L T)) ∧ (∀ x : Int32, oS (Hp m F L T) (some 54) 0 (1 : Int32) x = some (Hp m (up2 F 54 1 x) L T)) ∧ (∀ x : Int32, oS (Hp m F L T) (some 54) 0 (2 : Int32) x = some (Hp m (up2 F 54 2 x) L T)) ∧ (∀ x : Int32, oS (Hp m F L T) (some 54) 0 (3 : Int32) x = some (Hp m (up2 F 54 3 x) L T)) ∧ (∀ x : Int32, oS (Hp m F L T) (some 54) 0 (4 : Int32) x = some (Hp m (up2 F 54 4 x) L T)) := ⟨(gN_54 (j := 0) (by decide)).1, (gN_54 (j := 1) (by decide)).1, (gN_54 (j := 2) (by decide)).1, (gN_54 (j := 3) (by decide)).1, (gN_54 (j := 4) (by decide)).1, (gN_54 (j := 0) (by decide)).2, (gN_54 (j := 1) (by decide)).2, (gN_54 (j := 2) (by decide)).2, (gN_54 (j := 3) (by decide)).2, (gN_54 (j := 4) (by decide)).2⟩
end TN
theorem oPz_0 {A : hP} {r : Option Nat} {ci k : Nat} : oPz A r ci k 0 = oP A r ci k (.int 0) := by simp [oPz]
theorem oPz_1 {A : hP} {r : Option Nat} {ci k : Nat} : oPz A r ci k 1 = oP A r ci k (.int 1) := by simp [oPz]
theorem c10 : ((1 : Int32) = 0) = False := eq_false (by decide)
theorem c01 : ((0 : Int32) = 1) = False := eq_false (by decide)
theorem cm1 : ((0 : Int32) ≤ -1) = False := eq_false (by decide)
theorem c00 : ((0 : Int32) = 0) = True := eq_true rfl
