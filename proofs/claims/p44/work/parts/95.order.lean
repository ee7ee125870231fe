/-! an order told on both sides -/
theorem zord_all : ∀ a b c d : Fin 10, decide ((((0 ||| 1 <<< a.val) ||| 1 <<< b.val) ||| 1 <<< c.val) ||| 1 <<< d.val = 15) = (decide (a.val < 4) && decide (b.val < 4) && decide (c.val < 4) && decide (d.val < 4) && !decide (a.val = b.val) && !decide (a.val = c.val) && !decide (a.val = d.val) && !decide (b.val = c.val) && !decide (b.val = d.val) && !decide (c.val = d.val)) := by decide +kernel
theorem zord_iff {o : Nat} (ho : o < 10000) : ((((0 ||| 1 <<< zod o 0) ||| 1 <<< zod o 1) ||| 1 <<< zod o 2) ||| 1 <<< zod o 3 = 15) ↔ zOr o := by
  have hd : ∀ j, zod o j < 10 := fun j => Nat.mod_lt _ (by decide)
  have h := zord_all ⟨zod o 0, hd 0⟩ ⟨zod o 1, hd 1⟩ ⟨zod o 2, hd 2⟩ ⟨zod o 3, hd 3⟩
  rw [Bool.eq_iff_iff] at h
  simp only [decide_eq_true_eq, Bool.and_eq_true, Bool.not_eq_true', decide_eq_false_iff_not] at h
  rw [h]
  constructor
  · rintro ⟨⟨⟨⟨⟨⟨⟨⟨⟨a, b⟩, c⟩, d⟩, e1⟩, e2⟩, e3⟩, e4⟩, e5⟩, e6⟩
    refine ⟨ho, ?_, ?_⟩
    · intro j hj
      have : j = 0 ∨ j = 1 ∨ j = 2 ∨ j = 3 := by omega
      rcases this with g | g | g | g <;> subst g <;> assumption
    · intro i j hij hj
      have : (i = 0 ∧ (j = 1 ∨ j = 2 ∨ j = 3)) ∨ (i = 1 ∧ (j = 2 ∨ j = 3)) ∨ (i = 2 ∧ j = 3) := by omega
      rcases this with ⟨rfl, g | g | g⟩ | ⟨rfl, g | g⟩ | ⟨rfl, g⟩ <;> subst g <;> assumption
  · rintro ⟨_, g1, g2⟩
    exact ⟨⟨⟨⟨⟨⟨⟨⟨⟨g1 0 (by omega), g1 1 (by omega)⟩, g1 2 (by omega)⟩, g1 3 (by omega)⟩, g2 0 1 (by omega) (by omega)⟩, g2 0 2 (by omega) (by omega)⟩, g2 0 3 (by omega) (by omega)⟩, g2 1 2 (by omega) (by omega)⟩, g2 1 3 (by omega) (by omega)⟩, g2 2 3 (by omega) (by omega)⟩
theorem zX11_isOrder (K : Nat) (hK : 10 < K) {o : Nat} (ho : o < 10000) : ∃ b, fX11_isOrder K (nI o) = some b ∧ (b = true ↔ zOr o) := by
  obtain ⟨k, rfl⟩ : ∃ k, K = k + 5 := ⟨K - 5, by omega⟩
  have hd : ∀ j, zod o j < 10 := fun j => Nat.mod_lt _ (by decide)
  have sh : ∀ j, (1 : Int32) <<< (nI (zod o j) &&& 31) = nI (1 <<< zod o j) := fun j => by
    have := hd j
    rw [show (1 : Int32) = nI 1 from rfl, zi_shl 1 (show zod o j < 32 by omega)]
  have step : ∀ m x j, j < 4 → fX11_isOrder_17 (k + 5) (nI o) (m + 1) (nI x) (nI j) = fX11_isOrder_17 (k + 5) (nI o) m (nI (x ||| 1 <<< zod o j)) (nI (j + 1)) := by
    intro m x j hj
    rw [fX11_isOrder_17, if_neg (show ¬ (4 : Int32) ≤ nI j by rw [show (4 : Int32) = nI 4 from rfl, zi_le (by omega) (by omega)]; omega), zX11_digitOf ho hj, Option.bind_some, sh, zi_or, ← nI_succ]
  unfold fX11_isOrder
  rw [if_neg (nI_pos (by omega)), if_pos (by rw [show (9999 : Int32) = nI 9999 from rfl, zi_le (by omega) (by omega)]; omega)]
  show ∃ b, fX11_isOrder_17 (k + 5) (nI o) (k + 4 + 1) (nI 0) (nI 0) = some b ∧ (b = true ↔ zOr o)
  rw [step (k + 4) 0 0 (by omega), step (k + 3) _ 1 (by omega), step (k + 2) _ 2 (by omega), step (k + 1) _ 3 (by omega), fX11_isOrder_17, if_pos (show (4 : Int32) ≤ nI (3 + 1) by decide)]
  have hx : (((0 ||| 1 <<< zod o 0) ||| 1 <<< zod o 1) ||| 1 <<< zod o 2) ||| 1 <<< zod o 3 < 2 ^ 10 := by
    have p : ∀ j, 1 <<< zod o j < 2 ^ 10 := fun j => by
      rw [Nat.one_shiftLeft]
      exact Nat.pow_lt_pow_right (by decide) (hd j)
    exact Nat.or_lt_two_pow (Nat.or_lt_two_pow (Nat.or_lt_two_pow (Nat.or_lt_two_pow (by decide) (p 0)) (p 1)) (p 2)) (p 3)
  have hiff := zord_iff ho
  by_cases g : (((0 ||| 1 <<< zod o 0) ||| 1 <<< zod o 1) ||| 1 <<< zod o 2) ||| 1 <<< zod o 3 = 15
  · rw [g, if_pos (show nI 15 = (15 : Int32) from rfl)]
    exact ⟨true, rfl, fun _ => hiff.1 g, fun _ => rfl⟩
  · rw [if_neg (by rw [show (15 : Int32) = nI 15 from rfl, zi_eq (by omega) (by omega)]; exact g)]
    exact ⟨false, rfl, fun h => absurd h (by decide), fun h => absurd (hiff.2 h) g⟩
