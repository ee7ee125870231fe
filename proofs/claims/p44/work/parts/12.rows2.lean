theorem zl_cmpE (x y : Int64) : (lg_cmp x y = (0 : Int32)) = (x = y) := zl_cmp0 x y
theorem zX7_word (w : Nat → Int64) {t k : Nat} (ht : t < 5) (hk : k < 8) : fX7_word w (nI t) (nI k) = some (w (8 * t + k)) := by
  simp (disch := omega) only [fX7_word, zi_lit, zi_mul, zi_add, zi_lt, zi_le, zi_inB, zi_clamp]
  rw [if_neg (by omega), if_neg (by omega), if_pos (by omega), show t * 8 + k = 8 * t + k by omega]
theorem zJ7_fillL (K n : Nat) (hn : n < 2147483648) (hK : n < K) (x : Int64) (w : Nat → Int64) : ∃ w', fJ7_fill_d0a16 K n x w = some w' ∧ ∀ j, w' j = if j < n then x else w j := by
  unfold fJ7_fill_d0a16
  obtain ⟨r, hr, e⟩ := z_for (F := fun k i (s : Nat → Int64) => fJ7_fill_d0a16_6 K n x k (nI i) (nI n) s) (n := n) (inv := fun i s => ∀ j, s j = if j < i then x else w j) (post := fun s => ∀ j, s j = if j < n then x else w j)
    (by
      intro k i s hi hv
      left
      refine ⟨vp_updL s i x, ?_, ?_⟩
      · intro j
        rw [zl_at, hv j]
        split
        · rename_i h; rw [if_pos (by omega)]
        · rename_i h; split
          · rw [if_pos (by omega)]
          · rw [if_neg (by omega)]
      · simp (disch := omega) only [fJ7_fill_d0a16_6, zi_lit, zi_le, zi_inB, zi_clamp, zi_add]
        rw [if_neg (by omega), if_pos (by omega)])
    (by
      intro k s hv
      refine ⟨s, hv, ?_⟩
      simp (disch := omega) only [fJ7_fill_d0a16_6, zi_le]
      rw [if_pos (by omega)])
    n K 0 w (by omega) (by intro j; rw [if_neg (by omega)]) (by omega)
  exact ⟨r, e, hr⟩
theorem zJ7_fillI (K n : Nat) (hn : n < 2147483648) (hK : n < K) (x : Int32) (w : Nat → Int32) : ∃ w', fJ7_fill_53178 K n x w = some w' ∧ ∀ j, w' j = if j < n then x else w j := by
  unfold fJ7_fill_53178
  obtain ⟨r, hr, e⟩ := z_for (F := fun k i (s : Nat → Int32) => fJ7_fill_53178_5 K n x k (nI i) (nI n) s) (n := n) (inv := fun i s => ∀ j, s j = if j < i then x else w j) (post := fun s => ∀ j, s j = if j < n then x else w j)
    (by
      intro k i s hi hv
      left
      refine ⟨upd s i x, ?_, ?_⟩
      · intro j
        rw [zu_at, hv j]
        split
        · rename_i h; rw [if_pos (by omega)]
        · rename_i h; split
          · rw [if_pos (by omega)]
          · rw [if_neg (by omega)]
      · simp (disch := omega) only [fJ7_fill_53178_5, zi_lit, zi_le, zi_inB, zi_clamp, zi_add]
        rw [if_neg (by omega), if_pos (by omega)])
    (by
      intro k s hv
      refine ⟨s, hv, ?_⟩
      simp (disch := omega) only [fJ7_fill_53178_5, zi_le]
      rw [if_pos (by omega)])
    n K 0 w (by omega) (by intro j; rw [if_neg (by omega)]) (by omega)
  exact ⟨r, e, hr⟩
theorem zX6_fill (K n : Nat) (hn : n < 2147483648) (hK : n < K) (x : Int32) (w : Nat → Int32) : ∃ w', fX6_fill K n x w = some w' ∧ ∀ j, w' j = if j < n then x else w j := by
  obtain ⟨w', e, h⟩ := zJ7_fillI K n hn hK x w
  exact ⟨w', by unfold fX6_fill; rw [e]; rfl, h⟩
theorem zX7_clear (K : Nat) (hK : 40 < K) (w : Nat → Int64) : ∃ w', fX7_clear K w = some w' ∧ ∀ t k, t < 5 → k < 512 → zw w' t k = false := by
  obtain ⟨w', e, h⟩ := zJ7_fillL K 40 (by omega) hK 0 w
  refine ⟨w', by unfold fX7_clear; rw [e]; rfl, ?_⟩
  intro t k ht hk
  unfold zw
  rw [h, if_pos (by omega), zb_0]
theorem zX7_copyFrom (K : Nat) (hK : 40 < K) (v w : Nat → Int64) : ∃ w', fX7_copyFrom K v w = some w' ∧ ∀ j, j < 40 → w' j = v j := by
  unfold fX7_copyFrom
  obtain ⟨r, hr, e⟩ := z_for (F := fun k i (s : Nat → Int64) => fX7_copyFrom_2 K v k (nI i) s) (n := 40) (inv := fun i s => ∀ j, j < i → s j = v j) (post := fun s => ∀ j, j < 40 → s j = v j)
    (by
      intro k i s hi hv
      left
      refine ⟨vp_updL s i (v i), ?_, ?_⟩
      · intro j hj
        rw [zl_at]
        split
        · rename_i h; rw [h]
        · exact hv j (by omega)
      · simp (disch := omega) only [fX7_copyFrom_2, zi_lit, zi_le, zi_inB, zi_clamp, zi_add]
        rw [if_neg (by omega), if_neg (by omega), if_pos (by omega), if_pos (by omega)])
    (by
      intro k s hv
      refine ⟨s, hv, ?_⟩
      simp (disch := omega) only [fX7_copyFrom_2, zi_lit, zi_le]
      rw [if_pos (by omega)])
    40 K 0 w (by omega) (by intro j hj; omega) (by omega)
  exact ⟨r, e, hr⟩
theorem zX6_copyFrom (K n : Nat) (hn : n < 2147483648) (hK : n < K) (v w : Nat → Int32) : ∃ w', fX6_copyFrom K n n v w = some w' ∧ ∀ j, j < n → w' j = v j := by
  unfold fX6_copyFrom
  obtain ⟨r, hr, e⟩ := z_for (F := fun k i (s : Nat → Int32) => fX6_copyFrom_2 K n n v k (nI i) s) (n := n) (inv := fun i s => ∀ j, j < i → s j = v j) (post := fun s => ∀ j, j < n → s j = v j)
    (by
      intro k i s hi hv
      left
      refine ⟨upd s i (v i), ?_, ?_⟩
      · intro j hj
        rw [zu_at]
        split
        · rename_i h; rw [h]
        · exact hv j (by omega)
      · simp (disch := omega) only [fX6_copyFrom_2, zi_of, zi_lit, zi_le, zi_inB, zi_clamp, zi_add]
        rw [if_neg (by omega), if_neg (by omega), if_pos (by omega), if_pos (by omega)])
    (by
      intro k s hv
      refine ⟨s, hv, ?_⟩
      simp (disch := omega) only [fX6_copyFrom_2, zi_of, zi_lit, zi_le]
      rw [if_pos (by omega)])
    n K 0 w (by omega) (by intro j hj; omega) (by omega)
  exact ⟨r, e, hr⟩
theorem zX6_at {n k : Nat} (f : Nat → Int32) (hk : k < n) (hn : n < 2147483648) : fX6_at n f (nI k) = some (f k) := by
  simp (disch := omega) only [fX6_at, zi_of, zi_lit, zi_lt, zi_le, zi_inB, zi_clamp]
  rw [if_neg (by omega), if_neg (by omega), if_pos (by omega)]
theorem zX6_put {n k : Nat} (x : Int32) (f : Nat → Int32) (hk : k < n) (hn : n < 2147483648) : fX6_put n (nI k) x f = some (upd f k x) := by
  simp (disch := omega) only [fX6_put, zi_of, zi_lit, zi_lt, zi_le, zi_inB, zi_clamp]
  rw [if_neg (by omega), if_neg (by omega), if_pos (by omega)]
/-- takes all rows of another set -/
theorem zX7_take (K : Nat) (hK : 40 < K) (v w : Nat → Int64) : ∃ b w', fX7_take K v w = some (b, w') ∧ (∀ t k, t < 5 → k < 512 → zw w' t k = (zw w t k || zw v t k)) ∧ (b = true ↔ ∃ t k, t < 5 ∧ k < 512 ∧ zw v t k = true ∧ zw w t k = false) := by
  unfold fX7_take
  obtain ⟨r, hr, e⟩ := z_for (F := fun k i (s : Nat × (Nat → Int64)) => fX7_take_4 K v k (nI s.1) (nI i) s.2) (n := 40)
    (inv := fun i s => s.1 < 2 ∧ (∀ j, s.2 j = if j < i then w j ||| v j else w j) ∧ (s.1 = 1 ↔ ∃ j, j < i ∧ w j ||| v j ≠ w j))
    (post := fun s => (∀ j, s.2 j = if j < 40 then w j ||| v j else w j) ∧ (s.1 = true ↔ ∃ j, j < 40 ∧ w j ||| v j ≠ w j))
    (by
      intro k i s hi hv
      obtain ⟨h1, h2, h3⟩ := hv
      left
      have hs : s.2 i = w i := by rw [h2, if_neg (by omega)]
      refine ⟨(s.1 ||| (if w i ||| v i = w i then 0 else 1), vp_updL s.2 i (w i ||| v i)), ⟨?_, ?_, ?_⟩, ?_⟩
      · have : ∀ a, a < 2 → ∀ b, b < 2 → a ||| b < 2 := by decide
        exact this _ h1 _ (by split <;> omega)
      · intro j
        show vp_updL s.2 i (w i ||| v i) j = _
        rw [zl_at, h2]
        split
        · rename_i h; subst h; rw [if_pos (by omega)]
        · rename_i h; split
          · rw [if_pos (by omega)]
          · rw [if_neg (by omega)]
      · have h12 : s.1 = 0 ∨ s.1 = 1 := by omega
        by_cases hc : w i ||| v i = w i
        · simp only [hc, if_true, Nat.or_zero]
          rw [h3]
          constructor
          · rintro ⟨j, hj, hn⟩; exact ⟨j, by omega, hn⟩
          · rintro ⟨j, hj, hn⟩
            refine ⟨j, ?_, hn⟩
            rcases Nat.lt_or_ge j i with h | h
            · exact h
            · have : j = i := by omega
              subst this; exact absurd hc hn
        · simp only [hc, if_false]
          constructor
          · intro _; exact ⟨i, by omega, hc⟩
          · intro _; rcases h12 with h | h <;> rw [h] <;> decide
      · simp (disch := omega) only [fX7_take_4, fX7_take_55, zi_lit, zi_le, zi_inB, zi_clamp, zi_add, zl_cmp0, hs]
        rw [if_neg (by omega), if_neg (by omega), if_pos (by omega), if_pos (by omega), if_pos (by omega)]
        by_cases hc : w i ||| v i = w i
        · simp only [hc, if_true, zi_or, Nat.or_zero]
          rw [if_pos (by omega)]
        · simp only [hc, if_false, zi_or]
          rw [if_pos (by omega)])
    (by
      intro k s hv
      obtain ⟨h1, h2, h3⟩ := hv
      have h12 : s.1 = 0 ∨ s.1 = 1 := by omega
      rcases h12 with h | h
      · refine ⟨(false, s.2), ⟨h2, ?_⟩, ?_⟩
        · rw [h] at h3; simp only [Bool.false_eq_true]; rw [← h3]; simp
        · simp (disch := omega) only [fX7_take_4, zi_lit, zi_le, h]
          rw [if_pos (by omega)]; rfl
      · refine ⟨(true, s.2), ⟨h2, ?_⟩, ?_⟩
        · rw [h] at h3; simp only [true_iff]; exact h3.mp rfl
        · simp (disch := omega) only [fX7_take_4, zi_lit, zi_le, h]
          rw [if_pos (by omega)]; rfl)
    40 K 0 (0, w) (by omega) ⟨Nat.zero_lt_two, (by intro j; rw [if_neg (by omega)]), ⟨fun h => absurd h (by simp), fun h => by obtain ⟨j, hj, _⟩ := h; omega⟩⟩ (by omega)
  obtain ⟨b, w'⟩ := r
  obtain ⟨h1, h2⟩ := hr
  refine ⟨b, w', e, ?_, ?_⟩
  · intro t k ht hk
    unfold zw
    have := h1 (8 * t + k / 64)
    simp only at this
    rw [this, if_pos (by omega), zb_or]
  · rw [show (b = true ↔ _) = (b = true ↔ ∃ j, j < 40 ∧ w j ||| v j ≠ w j) from rfl] at h2
    rw [h2]
    constructor
    · rintro ⟨j, hj, hn⟩
      apply Classical.byContradiction
      intro hc
      apply hn
      apply zb_ext
      intro k hk
      rw [zb_or]
      cases hv : zb (v j) k
      · simp
      · cases hw : zb (w j) k
        · exfalso; apply hc
          refine ⟨j / 8, 64 * (j % 8) + k, by omega, by omega, ?_, ?_⟩
          · unfold zw; rw [show 8 * (j / 8) + (64 * (j % 8) + k) / 64 = j by omega, show (64 * (j % 8) + k) % 64 = k by omega]; exact hv
          · unfold zw; rw [show 8 * (j / 8) + (64 * (j % 8) + k) / 64 = j by omega, show (64 * (j % 8) + k) % 64 = k by omega]; exact hw
        · rfl
    · rintro ⟨t, k, ht, hk, h3, h4⟩
      refine ⟨8 * t + k / 64, by omega, ?_⟩
      intro hc
      unfold zw at h3 h4
      have := zb_or (w (8 * t + k / 64)) (v (8 * t + k / 64)) (k % 64)
      rw [hc, h3, h4] at this
      exact absurd this (by decide)
theorem zX7_keepOnly (K : Nat) (hK : 8 < K) {t : Nat} (ht : t < 5) (v w : Nat → Int64) : ∃ w', fX7_keepOnly K (nI t) v w = some w' ∧ ∀ t' k, t' < 5 → k < 512 → zw w' t' k = (zw w t' k && (!decide (t' = t) || zw v t' k)) := by
  unfold fX7_keepOnly
  obtain ⟨r, hr, e⟩ := z_for (F := fun k i (s : Nat → Int64) => fX7_keepOnly_2 K (nI t) v k (nI i) s) (n := 8) (inv := fun i s => ∀ j, s j = if 8 * t ≤ j ∧ j < 8 * t + i then w j &&& v j else w j) (post := fun s => ∀ j, s j = if 8 * t ≤ j ∧ j < 8 * t + 8 then w j &&& v j else w j)
    (by
      intro k i s hi hv
      left
      refine ⟨vp_updL s (t * 8 + i) (w (t * 8 + i) &&& v (8 * t + i)), ?_, ?_⟩
      · intro j
        rw [zl_at, hv j]
        split
        · rename_i h; subst h; rw [if_pos (by omega), show 8 * t + i = t * 8 + i by omega]
        · rename_i h; split
          · rw [if_pos (by omega)]
          · rw [if_neg (by omega)]
      · have hs : s (t * 8 + i) = w (t * 8 + i) := by rw [hv, if_neg (by omega)]
        simp (disch := omega) only [fX7_keepOnly_2, fX7_keepOnly_47, zX7_word, zi_lit, zi_le, zi_lt, zi_inB, zi_clamp, zi_add, zi_mul, Option.bind_some, hs]
        rw [if_neg (by omega), if_neg (by omega), if_neg (by omega), if_pos (by omega), if_pos (by omega)])
    (by
      intro k s hv
      refine ⟨s, hv, ?_⟩
      simp (disch := omega) only [fX7_keepOnly_2, zi_lit, zi_le]
      rw [if_pos (by omega)])
    8 K 0 w (by omega) (by intro j; rw [if_neg (by omega)]) (by omega)
  refine ⟨r, e, ?_⟩
  intro t' k ht' hk
  unfold zw
  rw [hr]
  by_cases h : t' = t
  · subst h; rw [if_pos (by omega), zb_and]; simp
  · rw [if_neg (by omega)]; simp [h]
