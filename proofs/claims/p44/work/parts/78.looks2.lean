/-! the means in the class, the first row from one on -/
theorem zbitCount : ∀ b : Fin 256, fJ6_bitCount_0f7a4 (nI b.val) = some (nI (zcnt (fun i => b.val.testBit i) 8)) := by decide +kernel
