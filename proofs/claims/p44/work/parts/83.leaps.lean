/-! calls of a query: leaps, groups, the size of a group, an answer -/
theorem zst16 : ∀ B : Fin 16, ∀ v : Fin 4, (nI B.val &&& ((1 : Int32) <<< (nI v.val &&& 31)) = 0) = (B.val.testBit v.val = false) := by
  intro B v
  have : ∀ B : Fin 16, ∀ v : Fin 4, decide (nI B.val &&& ((1 : Int32) <<< (nI v.val &&& 31)) = 0) = decide (B.val.testBit v.val = false) := by decide +kernel
  have h := this B v
  rw [decide_eq_decide] at h
  exact propext h
