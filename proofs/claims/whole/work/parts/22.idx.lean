section TN
variable {m : Nat} {F : Nat → Nat → Int32} {L : Nat → Nat → Option Nat} {T : Nat → Nat}
theorem gN_6 {j : Nat} (h : j < 26) : (oA (Hp m F L T) (some 6) 0 (nI j) = some (F 6 j)) ∧ ∀ x : Int32, oS (Hp m F L T) (some 6) 0 (nI j) x = some (Hp m (up2 F 6 j x) L T) := by
  have h1 := nI_in (N := 26) h (by decide)
  have h2 : (nI j).toNatClampNeg = j := nI_clamp (by omega)
  refine ⟨?_, fun x => ?_⟩
  · rw [(gA_6 (x := 0)).1, if_neg h1, h2]
  · rw [gA_6.2.1, if_neg h1, h2]
theorem gN_9 {j : Nat} (h : j < 26) : (oA (Hp m F L T) (some 9) 0 (nI j) = some (F 9 j)) ∧ ∀ x : Int32, oS (Hp m F L T) (some 9) 0 (nI j) x = some (Hp m (up2 F 9 j x) L T) := by
  have h1 := nI_in (N := 26) h (by decide)
  have h2 : (nI j).toNatClampNeg = j := nI_clamp (by omega)
  refine ⟨?_, fun x => ?_⟩
  · rw [(gA_9 (x := 0)).1, if_neg h1, h2]
  · rw [gA_9.2.1, if_neg h1, h2]
theorem gN_12 {j : Nat} (h : j < 1664) : (oA (Hp m F L T) (some 12) 0 (nI j) = some (F 12 j)) ∧ ∀ x : Int32, oS (Hp m F L T) (some 12) 0 (nI j) x = some (Hp m (up2 F 12 j x) L T) := by
  have h1 := nI_in (N := 1664) h (by decide)
  have h2 : (nI j).toNatClampNeg = j := nI_clamp (by omega)
  refine ⟨?_, fun x => ?_⟩
  · rw [(gA_12 (x := 0)).1, if_neg h1, h2]
  · rw [gA_12.2.1, if_neg h1, h2]
theorem gN_13 {j : Nat} (h : j < 1664) : (oA (Hp m F L T) (some 13) 0 (nI j) = some (F 13 j)) ∧ ∀ x : Int32, oS (Hp m F L T) (some 13) 0 (nI j) x = some (Hp m (up2 F 13 j x) L T) := by
  have h1 := nI_in (N := 1664) h (by decide)
  have h2 : (nI j).toNatClampNeg = j := nI_clamp (by omega)
  refine ⟨?_, fun x => ?_⟩
  · rw [(gA_13 (x := 0)).1, if_neg h1, h2]
  · rw [gA_13.2.1, if_neg h1, h2]
theorem gN_14 {j : Nat} (h : j < 26) : (oA (Hp m F L T) (some 14) 0 (nI j) = some (F 14 j)) ∧ ∀ x : Int32, oS (Hp m F L T) (some 14) 0 (nI j) x = some (Hp m (up2 F 14 j x) L T) := by
  have h1 := nI_in (N := 26) h (by decide)
  have h2 : (nI j).toNatClampNeg = j := nI_clamp (by omega)
  refine ⟨?_, fun x => ?_⟩
  · rw [(gA_14 (x := 0)).1, if_neg h1, h2]
  · rw [gA_14.2.1, if_neg h1, h2]
theorem gN_15 {j : Nat} (h : j < 24) : (oA (Hp m F L T) (some 15) 0 (nI j) = some (F 15 j)) ∧ ∀ x : Int32, oS (Hp m F L T) (some 15) 0 (nI j) x = some (Hp m (up2 F 15 j x) L T) := by
  have h1 := nI_in (N := 24) h (by decide)
  have h2 : (nI j).toNatClampNeg = j := nI_clamp (by omega)
  refine ⟨?_, fun x => ?_⟩
  · rw [(gA_15 (x := 0)).1, if_neg h1, h2]
  · rw [gA_15.2.1, if_neg h1, h2]
theorem gN_16 {j : Nat} (h : j < 4096) : (oA (Hp m F L T) (some 16) 0 (nI j) = some (F 16 j)) ∧ ∀ x : Int32, oS (Hp m F L T) (some 16) 0 (nI j) x = some (Hp m (up2 F 16 j x) L T) := by
  have h1 := nI_in (N := 4096) h (by decide)
  have h2 : (nI j).toNatClampNeg = j := nI_clamp (by omega)
  refine ⟨?_, fun x => ?_⟩
  · rw [(gA_16 (x := 0)).1, if_neg h1, h2]
  · rw [gA_16.2.1, if_neg h1, h2]
theorem gN_18 {j : Nat} (h : j < 16) : (oA (Hp m F L T) (some 18) 0 (nI j) = some (F 18 j)) ∧ ∀ x : Int32, oS (Hp m F L T) (some 18) 0 (nI j) x = some (Hp m (up2 F 18 j x) L T) := by
  have h1 := nI_in (N := 16) h (by decide)
  have h2 : (nI j).toNatClampNeg = j := nI_clamp (by omega)
  refine ⟨?_, fun x => ?_⟩
  · rw [(gA_18 (x := 0)).1, if_neg h1, h2]
  · rw [gA_18.2.1, if_neg h1, h2]
theorem gN_37 {j : Nat} (h : j < 26) : (oA (Hp m F L T) (some 37) 0 (nI j) = some (F 37 j)) ∧ ∀ x : Int32, oS (Hp m F L T) (some 37) 0 (nI j) x = some (Hp m (up2 F 37 j x) L T) := by
  have h1 := nI_in (N := 26) h (by decide)
  have h2 : (nI j).toNatClampNeg = j := nI_clamp (by omega)
  refine ⟨?_, fun x => ?_⟩
  · rw [(gA_37 (x := 0)).1, if_neg h1, h2]
  · rw [gA_37.2.1, if_neg h1, h2]
theorem gN_40 {j : Nat} (h : j < 26) : (oA (Hp m F L T) (some 40) 0 (nI j) = some (F 40 j)) ∧ ∀ x : Int32, oS (Hp m F L T) (some 40) 0 (nI j) x = some (Hp m (up2 F 40 j x) L T) := by
  have h1 := nI_in (N := 26) h (by decide)
  have h2 : (nI j).toNatClampNeg = j := nI_clamp (by omega)
  refine ⟨?_, fun x => ?_⟩
  · rw [(gA_40 (x := 0)).1, if_neg h1, h2]
  · rw [gA_40.2.1, if_neg h1, h2]
theorem gN_42 {j : Nat} (h : j < 8) : (oA (Hp m F L T) (some 42) 0 (nI j) = some (F 42 j)) ∧ ∀ x : Int32, oS (Hp m F L T) (some 42) 0 (nI j) x = some (Hp m (up2 F 42 j x) L T) := by
  have h1 := nI_in (N := 8) h (by decide)
  have h2 : (nI j).toNatClampNeg = j := nI_clamp (by omega)
  refine ⟨?_, fun x => ?_⟩
  · rw [(gA_42 (x := 0)).1, if_neg h1, h2]
  · rw [gA_42.2.1, if_neg h1, h2]
theorem gN_43 {j : Nat} (h : j < 8) : (oA (Hp m F L T) (some 43) 0 (nI j) = some (F 43 j)) ∧ ∀ x : Int32, oS (Hp m F L T) (some 43) 0 (nI j) x = some (Hp m (up2 F 43 j x) L T) := by
  have h1 := nI_in (N := 8) h (by decide)
  have h2 : (nI j).toNatClampNeg = j := nI_clamp (by omega)
  refine ⟨?_, fun x => ?_⟩
  · rw [(gA_43 (x := 0)).1, if_neg h1, h2]
  · rw [gA_43.2.1, if_neg h1, h2]
theorem gN_44 {j : Nat} (h : j < 320) : (oA (Hp m F L T) (some 44) 0 (nI j) = some (F 44 j)) ∧ ∀ x : Int32, oS (Hp m F L T) (some 44) 0 (nI j) x = some (Hp m (up2 F 44 j x) L T) := by
  have h1 := nI_in (N := 320) h (by decide)
  have h2 : (nI j).toNatClampNeg = j := nI_clamp (by omega)
  refine ⟨?_, fun x => ?_⟩
  · rw [(gA_44 (x := 0)).1, if_neg h1, h2]
  · rw [gA_44.2.1, if_neg h1, h2]
theorem gN_45 {j : Nat} (h : j < 39) : (oA (Hp m F L T) (some 45) 0 (nI j) = some (F 45 j)) ∧ ∀ x : Int32, oS (Hp m F L T) (some 45) 0 (nI j) x = some (Hp m (up2 F 45 j x) L T) := by
  have h1 := nI_in (N := 39) h (by decide)
  have h2 : (nI j).toNatClampNeg = j := nI_clamp (by omega)
  refine ⟨?_, fun x => ?_⟩
  · rw [(gA_45 (x := 0)).1, if_neg h1, h2]
  · rw [gA_45.2.1, if_neg h1, h2]
theorem gN_46 {j : Nat} (h : j < 39) : (oA (Hp m F L T) (some 46) 0 (nI j) = some (F 46 j)) ∧ ∀ x : Int32, oS (Hp m F L T) (some 46) 0 (nI j) x = some (Hp m (up2 F 46 j x) L T) := by
  have h1 := nI_in (N := 39) h (by decide)
  have h2 : (nI j).toNatClampNeg = j := nI_clamp (by omega)
  refine ⟨?_, fun x => ?_⟩
  · rw [(gA_46 (x := 0)).1, if_neg h1, h2]
  · rw [gA_46.2.1, if_neg h1, h2]
theorem gN_47 {j : Nat} (h : j < 400) : (oA (Hp m F L T) (some 47) 0 (nI j) = some (F 47 j)) ∧ ∀ x : Int32, oS (Hp m F L T) (some 47) 0 (nI j) x = some (Hp m (up2 F 47 j x) L T) := by
  have h1 := nI_in (N := 400) h (by decide)
  have h2 : (nI j).toNatClampNeg = j := nI_clamp (by omega)
  refine ⟨?_, fun x => ?_⟩
  · rw [(gA_47 (x := 0)).1, if_neg h1, h2]
  · rw [gA_47.2.1, if_neg h1, h2]
theorem gN_48 {j : Nat} (h : j < 4) : (oA (Hp m F L T) (some 48) 0 (nI j) = some (F 48 j)) ∧ ∀ x : Int32, oS (Hp m F L T) (some 48) 0 (nI j) x = some (Hp m (up2 F 48 j x) L T) := by
  have h1 := nI_in (N := 4) h (by decide)
  have h2 : (nI j).toNatClampNeg = j := nI_clamp (by omega)
  refine ⟨?_, fun x => ?_⟩
  · rw [(gA_48 (x := 0)).1, if_neg h1, h2]
  · rw [gA_48.2.1, if_neg h1, h2]
theorem gN_49 {j : Nat} (h : j < 4096) : (oA (Hp m F L T) (some 49) 0 (nI j) = some (F 49 j)) ∧ ∀ x : Int32, oS (Hp m F L T) (some 49) 0 (nI j) x = some (Hp m (up2 F 49 j x) L T) := by
  have h1 := nI_in (N := 4096) h (by decide)
  have h2 : (nI j).toNatClampNeg = j := nI_clamp (by omega)
  refine ⟨?_, fun x => ?_⟩
  · rw [(gA_49 (x := 0)).1, if_neg h1, h2]
  · rw [gA_49.2.1, if_neg h1, h2]
theorem gN_50 {j : Nat} (h : j < 26) : (oA (Hp m F L T) (some 50) 0 (nI j) = some (F 50 j)) ∧ ∀ x : Int32, oS (Hp m F L T) (some 50) 0 (nI j) x = some (Hp m (up2 F 50 j x) L T) := by
  have h1 := nI_in (N := 26) h (by decide)
  have h2 : (nI j).toNatClampNeg = j := nI_clamp (by omega)
  refine ⟨?_, fun x => ?_⟩
  · rw [(gA_50 (x := 0)).1, if_neg h1, h2]
  · rw [gA_50.2.1, if_neg h1, h2]
theorem gN_52 {j : Nat} (h : j < 78) : (oA (Hp m F L T) (some 52) 0 (nI j) = some (F 52 j)) ∧ ∀ x : Int32, oS (Hp m F L T) (some 52) 0 (nI j) x = some (Hp m (up2 F 52 j x) L T) := by
  have h1 := nI_in (N := 78) h (by decide)
  have h2 : (nI j).toNatClampNeg = j := nI_clamp (by omega)
  refine ⟨?_, fun x => ?_⟩
  · rw [(gA_52 (x := 0)).1, if_neg h1, h2]
  · rw [gA_52.2.1, if_neg h1, h2]
theorem gN_53 {j : Nat} (h : j < 16) : (oA (Hp m F L T) (some 53) 0 (nI j) = some (F 53 j)) ∧ ∀ x : Int32, oS (Hp m F L T) (some 53) 0 (nI j) x = some (Hp m (up2 F 53 j x) L T) := by
  have h1 := nI_in (N := 16) h (by decide)
  have h2 : (nI j).toNatClampNeg = j := nI_clamp (by omega)
  refine ⟨?_, fun x => ?_⟩
  · rw [(gA_53 (x := 0)).1, if_neg h1, h2]
  · rw [gA_53.2.1, if_neg h1, h2]
theorem gN_3 {j : Nat} (h : j < 400) : (oA (Hp m F L T) (some 3) 1 (nI j) = some (F 3 j)) ∧ ∀ x : Int32, oS (Hp m F L T) (some 3) 1 (nI j) x = some (Hp m (up2 F 3 j x) L T) := by
  have h1 := nI_in (N := 400) h (by decide)
  have h2 : (nI j).toNatClampNeg = j := nI_clamp (by omega)
  refine ⟨?_, fun x => ?_⟩
  · rw [(gA_3 (x := 0)).1, if_neg h1, h2]
  · rw [gA_3.2, if_neg h1, h2]
theorem gN_51 {j : Nat} (h : j < 2) : (oA (Hp m F L T) (some 51) 2 (nI j) = some (F 51 j)) ∧ ∀ x : Int32, oS (Hp m F L T) (some 51) 2 (nI j) x = some (Hp m (up2 F 51 j x) L T) := by
  have h1 := nI_in (N := 2) h (by decide)
  have h2 : (nI j).toNatClampNeg = j := nI_clamp (by omega)
  refine ⟨?_, fun x => ?_⟩
  · rw [(gA_51 (x := 0)).1, if_neg h1, h2]
  · rw [gA_51.2, if_neg h1, h2]
theorem gN_r {r j : Nat} (hr : r < 8) (h : j < 40) : (oA (Hp m F L T) (some (20 + 2 * r)) 0 (nI j) = some (F (20 + 2 * r) j)) ∧ ∀ x : Int32, oS (Hp m F L T) (some (20 + 2 * r)) 0 (nI j) x = some (Hp m (up2 F (20 + 2 * r) j x) L T) := by
  have h1 := nI_in (N := 40) h (by decide)
  have h2 : (nI j).toNatClampNeg = j := nI_clamp (by omega)
  refine ⟨?_, fun x => ?_⟩
  · rw [(gA_r (x := 0) hr).1, if_neg h1, h2]
  · rw [(gA_r hr).2, if_neg h1, h2]
theorem gN_1 {r : Nat} (hr : r < 8) : oQ (Hp m F L T) (some 1) 3 (nI r) = some (some (19 + 2 * r)) := by
  rw [gQ_1, if_neg (nI_in (N := 8) hr (by decide)), nI_clamp (by omega), rowsF_s r hr]
theorem gN_5 {j : Nat} (h : j < 4) : oQ (Hp m F L T) (some 5) 5 (nI j) = some (L 5 j) := by
  rw [(gQ_5 (v := none)).1, if_neg (nI_in (N := 4) h (by decide)), nI_clamp (by omega)]
theorem gN_10 {k : Nat} (h : k < 2) : oQ (Hp m F L T) (some 10) 4 (nI k) = some (some (35 + 3 * k)) := by
  rw [gQ_10, if_neg (nI_in (N := 2) h (by decide)), nI_clamp (by omega)]
  match k, h with
  | 0, _ => rfl
  | 1, _ => rfl
theorem gL_45 : oA (Hp m F L T) (some 45) 0 (0 : Int32) = some (F 45 0) ∧ oA (Hp m F L T) (some 45) 0 (1 : Int32) = some (F 45 1) ∧ oA (Hp m F L T) (some 45) 0 (2 : Int32) = some (F 45 2) ∧ oA (Hp m F L T) (some 45) 0 (3 : Int32) = some (F 45 3) ∧ oA (Hp m F L T) (some 45) 0 (4 : Int32) = some (F 45 4) ∧ (∀ x : Int32, oS (Hp m F L T) (some 45) 0 (0 : Int32) x = some (Hp m (up2 F 45 0 x) L T)) ∧ (∀ x : Int32, oS (Hp m F L T) (some 45) 0 (1 : Int32) x = some (Hp m (up2 F 45 1 x) L T)) ∧ (∀ x : Int32, oS (Hp m F L T) (some 45) 0 (2 : Int32) x = some (Hp m (up2 F 45 2 x) L T)) ∧ (∀ x : Int32, oS (Hp m F L T) (some 45) 0 (3 : Int32) x = some (Hp m (up2 F 45 3 x) L T)) ∧ (∀ x : Int32, oS (Hp m F L T) (some 45) 0 (4 : Int32) x = some (Hp m (up2 F 45 4 x) L T)) := ⟨(gN_45 (j := 0) (by decide)).1, (gN_45 (j := 1) (by decide)).1, (gN_45 (j := 2) (by decide)).1, (gN_45 (j := 3) (by decide)).1, (gN_45 (j := 4) (by decide)).1, (gN_45 (j := 0) (by decide)).2, (gN_45 (j := 1) (by decide)).2, (gN_45 (j := 2) (by decide)).2, (gN_45 (j := 3) (by decide)).2, (gN_45 (j := 4) (by decide)).2⟩
theorem gL_46 : oA (Hp m F L T) (some 46) 0 (0 : Int32) = some (F 46 0) ∧ oA (Hp m F L T) (some 46) 0 (1 : Int32) = some (F 46 1) ∧ oA (Hp m F L T) (some 46) 0 (2 : Int32) = some (F 46 2) ∧ oA (Hp m F L T) (some 46) 0 (3 : Int32) = some (F 46 3) ∧ oA (Hp m F L T) (some 46) 0 (4 : Int32) = some (F 46 4) ∧ (∀ x : Int32, oS (Hp m F L T) (some 46) 0 (0 : Int32) x = some (Hp m (up2 F 46 0 x) L T)) ∧ (∀ x : Int32, oS (Hp m F L T) (some 46) 0 (1 : Int32) x = some (Hp m (up2 F 46 1 x) L T)) ∧ (∀ x : Int32, oS (Hp m F L T) (some 46) 0 (2 : Int32) x = some (Hp m (up2 F 46 2 x) L T)) ∧ (∀ x : Int32, oS (Hp m F L T) (some 46) 0 (3 : Int32) x = some (Hp m (up2 F 46 3 x) L T)) ∧ (∀ x : Int32, oS (Hp m F L T) (some 46) 0 (4 : Int32) x = some (Hp m (up2 F 46 4 x) L T)) := ⟨(gN_46 (j := 0) (by decide)).1, (gN_46 (j := 1) (by decide)).1, (gN_46 (j := 2) (by decide)).1, (gN_46 (j := 3) (by decide)).1, (gN_46 (j := 4) (by decide)).1, (gN_46 (j := 0) (by decide)).2, (gN_46 (j := 1) (by decide)).2, (gN_46 (j := 2) (by decide)).2, (gN_46 (j := 3) (by decide)).2, (gN_46 (j := 4) (by decide)).2⟩
end TN
theorem oPz_0 {A : hP} {r : Option Nat} {ci k : Nat} : oPz A r ci k 0 = oP A r ci k (.int 0) := by simp [oPz]
theorem oPz_1 {A : hP} {r : Option Nat} {ci k : Nat} : oPz A r ci k 1 = oP A r ci k (.int 1) := by simp [oPz]
theorem c10 : ((1 : Int32) = 0) = False := eq_false (by decide)
theorem c01 : ((0 : Int32) = 1) = False := eq_false (by decide)
theorem cm1 : ((0 : Int32) ≤ -1) = False := eq_false (by decide)
theorem c00 : ((0 : Int32) = 0) = True := eq_true rfl
