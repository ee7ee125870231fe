/-! what is kept for undo -/
def zHist (pw : Nat → Nat → Int32) (pf : Nat → Nat → Int64) (po ph : Nat → Nat → Int32) (pqc : Nat → Nat → Nat → Int32) (pqs : Nat → Nat → Int32) (pbc : Nat → Nat → Nat → Int32) (pbs : Nat → Nat → Int32) (pt pr : Nat → Int32) (nx kp : Int32) (before : Nat → Int32) (ch : Int32) : Prop :=
  ∃ (n k : Nat) (H : Nat → Nat → Nat), nx = nI n ∧ kp = nI k ∧ ch = nI k ∧ n < 10 ∧ k ≤ 10 ∧ ∀ j, 1 ≤ j → j ≤ k → zWF (H j) ∧ zM (fun i => before ((k - j) * 2780 + i)) (H j) ∧
    zSR (pw ((n + 10 - j) % 10)) (pf ((n + 10 - j) % 10)) (po ((n + 10 - j) % 10)) (ph ((n + 10 - j) % 10)) (pqc ((n + 10 - j) % 10)) (pqs ((n + 10 - j) % 10)) (pbc ((n + 10 - j) % 10)) (pbs ((n + 10 - j) % 10)) (pt ((n + 10 - j) % 10)) (pr ((n + 10 - j) % 10)) (H j)
theorem zX5_slotAt {n : Nat} (h : n < 10) : fX5_slotAt (nI n) = some n := by
  unfold fX5_slotAt
  rw [if_neg (nI_pos (by omega)), if_neg (by rw [show (10 : Int32) = nI 10 from rfl, zi_le (by omega) (by omega)]; omega), if_pos (by rw [zi_inB (by omega)]; exact h), zi_clamp (by omega)]
/-- the reference keeps -/
theorem zup_at {α : Type} (f : Nat → α) (i : Nat) (x : α) : zup f i x i = x := if_pos rfl
theorem zup_ne {α : Type} (f : Nat → α) {i j : Nat} (x : α) (h : j ≠ i) : zup f i x j = f j := if_neg h
