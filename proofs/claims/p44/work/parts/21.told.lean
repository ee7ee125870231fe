/-! the reference: rows for an atom, the value told -/
def zMp (place : Nat → Int32) (pl : Nat → Nat) (c : Nat) : Prop := ∀ m, m < c → place m = nI (pl m) ∧ pl m < 4
theorem zX12_valueIn {k j : Nat} (hk : k < 512) (hj : j < 3) : fX12_valueIn (nI k) (nI j) = some (nI (zcol k j)) := by
  have : j = 0 ∨ j = 1 ∨ j = 2 := by omega
  have hs : (6 - 3 * j) % 32 = 6 - 3 * j := by omega
  simp (disch := omega) only [fX12_valueIn, zi_lit, zi_mul, zi_sub, zi_and, zn_and7, zn_and31, hs, zi_shrP]
  unfold zcol
  rcases this with e | e | e <;> subst e <;> rfl
