theorem zlst_uniq {p : Nat → Bool} {n x r : Nat} (h1 : x ≤ r) (h2 : r ≤ x + n) (h3 : ∀ y, x ≤ y → y < r → p y = false) (h4 : r < x + n → p r = true) : zlst p n x = r := by
  have a := zlst_le p n x
  rcases Nat.lt_trichotomy (zlst p n x) r with h | h | h
  · have := h3 _ a.1 h
    rw [zlst_yes p n x (by omega)] at this
    exact absurd this (by decide)
  · exact h
  · have := zlst_no p n x r h1 h
    rw [h4 (by omega)] at this
    exact absurd this (by decide)
theorem zres_i {r : Nat} (h : r < 8) : zres r = nI r := if_pos h
theorem zres_8 : zres 8 = -1 := rfl
