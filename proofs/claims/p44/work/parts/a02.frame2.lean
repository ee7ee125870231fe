/-! more rows of the frame -/
theorem z_ite {α : Type} {c : Prop} {d : Decidable c} {x : Option α} {r : α} (h : (@ite _ c d x none) = some r) : c ∧ x = some r := by
  by_cases q : c
  · rw [if_pos q] at h; exact ⟨q, h⟩
  · rw [if_neg q] at h; cases h
/-- what a copy of an array's part wants -/
theorem zcp_all {sp dp n : Int32} {n0 n1 : Nat} (h : zcp sp dp n n0 n1 = true) : ¬ sp < 0 ∧ ¬ dp < 0 ∧ ¬ n < 0 ∧ sp.toNatClampNeg + n.toNatClampNeg ≤ n0 ∧ dp.toNatClampNeg + n.toNatClampNeg ≤ n1 := by
  unfold zcp at h
  simpa only [Bool.and_eq_true, Bool.not_eq_true', decide_eq_false_iff_not, decide_eq_true_eq] using h
theorem zcp_1 {sp dp n : Int32} {n0 n1 : Nat} (h : zcp sp dp n n0 n1 = true) : ¬ sp < 0 := (zcp_all h).1
theorem zcp_2 {sp dp n : Int32} {n0 n1 : Nat} (h : zcp sp dp n n0 n1 = true) : ¬ dp < 0 := (zcp_all h).2.1
theorem zcp_3 {sp dp n : Int32} {n0 n1 : Nat} (h : zcp sp dp n n0 n1 = true) : ¬ n < 0 := (zcp_all h).2.2.1
theorem zcp_4 {sp dp n : Int32} {n0 n1 : Nat} (h : zcp sp dp n n0 n1 = true) : sp.toNatClampNeg + n.toNatClampNeg ≤ n0 := (zcp_all h).2.2.2.1
theorem zcp_5 {sp dp n : Int32} {n0 n1 : Nat} (h : zcp sp dp n n0 n1 = true) : dp.toNatClampNeg + n.toNatClampNeg ≤ n1 := (zcp_all h).2.2.2.2
