/-! the count, what is below, the number of rows; atoms as numbers; values as digits -/
theorem zX7_size (K : Nat) (hK : 8 < K) (w : Nat → Int64) {t : Nat} (ht : t < 5) : fX7_size K w (nI t) = some (nI (zcnt (zw w t) 512)) := by
  unfold fX7_size
  obtain ⟨r, hr, e⟩ := z_for (F := fun k i (s : Nat) => fX7_size_4 K w (nI t) k (nI s) (nI i)) (n := 8) (inv := fun i s => s = zcnt (zw w t) (64 * i)) (post := fun s => s = nI (zcnt (zw w t) 512))
    (by
      intro k i s hi hv
      subst hv
      left
      refine ⟨_, rfl, ?_⟩
      have hb : zcnt (zw w t) (64 * (i + 1)) = zcnt (zw w t) (64 * i) + zcnt (zb (w (8 * t + i))) 64 := by
        rw [Nat.mul_succ]; unfold zcnt; rw [zsum_split]
        congr 1; apply zsum_cong; intro k hk
        show (zw w t (64 * i + k)).toNat = _
        unfold zw
        rw [show 8 * t + (64 * i + k) / 64 = 8 * t + i by omega, show (64 * i + k) % 64 = k by omega]
      simp (disch := omega) only [fX7_size_4, zX7_word, zJ13_count, Option.bind_some, zi_lit, zi_le, zi_add]
      rw [if_neg (by omega), hb])
    (by
      intro k s hv
      subst hv
      refine ⟨_, rfl, ?_⟩
      simp (disch := omega) only [fX7_size_4, zi_lit, zi_le, Nat.reduceMul]
      rw [if_pos (by omega)])
    8 K 0 0 (by omega) rfl (by omega)
  rw [hr] at e; exact e
theorem zcnt_mono (p : Nat → Bool) {a : Nat} : ∀ {b : Nat}, a ≤ b → zcnt p a ≤ zcnt p b
  | 0, h => by rw [Nat.le_zero.mp h]; exact Nat.le_refl _
  | b + 1, h => by
    rcases Nat.lt_or_ge a (b + 1) with h1 | h1
    · have := zcnt_mono p (show a ≤ b by omega); rw [zcnt_s]; omega
    · rw [show a = b + 1 by omega]; exact Nat.le_refl _
theorem zX7_numbered (K : Nat) (hK : 512 < K) (w : Nat → Int64) {t n : Nat} (ht : t < 5) (hn : n < zcnt (zw w t) 512) : ∃ r, r < 512 ∧ zw w t r = true ∧ zcnt (zw w t) r = n ∧ fX7_numbered K w (nI t) (nI n) = some (nI r) := by
  unfold fX7_numbered
  have hc := zcnt_le (zw w t) 512
  obtain ⟨r, hr, e⟩ := z_for (F := fun k i (s : Nat) => fX7_numbered_5 K w (nI t) (nI n) k (nI s) (nI i)) (n := 512) (inv := fun i s => zcnt (zw w t) i + s = n) (post := fun s => ∃ r, r < 512 ∧ zw w t r = true ∧ zcnt (zw w t) r = n ∧ s = nI r)
    (by
      intro k i s hi hv
      cases h : zw w t i
      · left
        refine ⟨s, ?_, ?_⟩
        · rw [zcnt_s, h]; simpa using hv
        · simp (disch := omega) only [fX7_numbered_5, fX7_numbered_33, zX7_has, h, Option.bind_some, zi_lit, zi_le, zi_add, zi_b0]
          rw [if_neg (by omega)]; simp
      · cases s with
        | zero =>
          right
          refine ⟨nI i, ⟨i, hi, h, by omega, rfl⟩, ?_⟩
          simp (disch := omega) only [fX7_numbered_5, fX7_numbered_33, zX7_has, h, Option.bind_some, zi_lit, zi_le, zi_add, zi_b0]
          rw [if_neg (by omega)]; simp
        | succ s =>
          left
          refine ⟨s, ?_, ?_⟩
          · rw [zcnt_s, h]; simp; omega
          · have hs : s + 1 < 2147483648 := by omega
            have e0 : ¬ nI (s + 1) = 0 := by rw [show (0 : Int32) = nI 0 from rfl, zi_eq hs (by omega)]; omega
            simp (disch := omega) only [fX7_numbered_5, fX7_numbered_33, zX7_has, h, Option.bind_some, zi_b1, zi_dec]
            rw [if_neg (by rw [show (512 : Int32) = nI 512 from rfl, zi_le (by omega) (by omega)]; omega)]
            rw [if_neg (by rw [show bI true = nI 1 from rfl, show (0 : Int32) = nI 0 from rfl, zi_eq (by omega) (by omega)]; omega), if_neg e0, show (1 : Int32) = nI 1 from rfl, zi_add])
    (by
      intro k s hv
      exfalso; omega)
    512 K 0 n (by omega) (by rw [zcnt_0]; omega) (by omega)
  obtain ⟨r', h1, h2, h3, h4⟩ := hr
  exact ⟨r', h1, h2, h3, by rw [h4] at e; exact e⟩
/-! atoms: table, width, three variables -/
abbrev zA := Nat × Nat × Nat × Nat × Nat
def zaV (a : zA) (k : Nat) : Nat := match k with
  | 0 => a.2.2.1
  | 1 => a.2.2.2.1
  | _ => a.2.2.2.2
/-- its variables as a set -/
def zaS (a : zA) : Nat := (2 ^ a.2.2.1 ||| (if 1 < a.2.1 then 2 ^ a.2.2.2.1 else 0)) ||| (if 2 < a.2.1 then 2 ^ a.2.2.2.2 else 0)
def zaH (a : zA) (v : Nat) : Bool := decide (a.2.2.1 = v) || (decide (1 < a.2.1) && decide (a.2.2.2.1 = v)) || (decide (2 < a.2.1) && decide (a.2.2.2.2 = v))
def zaOK (a : zA) : Prop := a.1 < 5 ∧ 1 ≤ a.2.1 ∧ a.2.1 ≤ 3 ∧ a.2.2.1 < 4 ∧ a.2.2.2.1 < 4 ∧ a.2.2.2.2 < 4
/-- its number in the class -/
def zaC (a : zA) (n : Bool) : Nat := a.1 + 8 * a.2.1 + 32 * a.2.2.1 + 128 * a.2.2.2.1 + 512 * a.2.2.2.2 + 2048 * zaS a + 32768 * n.toNat
/-- the row that values make -/
def zaR (a : zA) (d : Nat → Nat) : Nat := 64 * d a.2.2.1 + (if 1 < a.2.1 then 8 * d a.2.2.2.1 else 0) + (if 2 < a.2.1 then d a.2.2.2.2 else 0)
theorem zaS_all1 : ∀ w : Fin 4, ∀ x : Fin 4, ∀ y : Fin 4, ∀ z : Fin 4, zaS (0, w.val, x.val, y.val, z.val) < 16 := by decide +kernel
theorem zaS_all2 : ∀ w : Fin 4, ∀ x : Fin 4, ∀ y : Fin 4, ∀ z : Fin 4, ∀ v : Fin 4, (zaS (0, w.val, x.val, y.val, z.val)).testBit v.val = zaH (0, w.val, x.val, y.val, z.val) v.val := by decide +kernel
theorem zaS_all3 : ∀ w : Fin 4, ∀ x : Fin 4, ∀ y : Fin 4, ∀ z : Fin 4, ∀ v : Fin 4, zaS (0, w.val, x.val, y.val, z.val) / 2 ^ v.val % 2 = (zaH (0, w.val, x.val, y.val, z.val) v.val).toNat := by decide +kernel
theorem zaS_all (w : Nat) (hw : w < 4) (x : Nat) (hx : x < 4) (y : Nat) (hy : y < 4) (z : Nat) (hz : z < 4) : zaS (0, w, x, y, z) < 16 ∧ (∀ v, v < 4 → ((zaS (0, w, x, y, z)).testBit v = zaH (0, w, x, y, z) v ∧ zaS (0, w, x, y, z) / 2 ^ v % 2 = (zaH (0, w, x, y, z) v).toNat)) :=
  ⟨zaS_all1 ⟨w, hw⟩ ⟨x, hx⟩ ⟨y, hy⟩ ⟨z, hz⟩, fun v hv => ⟨zaS_all2 ⟨w, hw⟩ ⟨x, hx⟩ ⟨y, hy⟩ ⟨z, hz⟩ ⟨v, hv⟩, zaS_all3 ⟨w, hw⟩ ⟨x, hx⟩ ⟨y, hy⟩ ⟨z, hz⟩ ⟨v, hv⟩⟩⟩
theorem zaS_lt {a : zA} (h : zaOK a) : zaS a < 16 := (zaS_all a.2.1 (by have := h.2.2.1; omega) _ h.2.2.2.1 _ h.2.2.2.2.1 _ h.2.2.2.2.2).1
theorem zaS_bit {a : zA} (h : zaOK a) {v : Nat} (hv : v < 4) : (zaS a).testBit v = zaH a v := ((zaS_all a.2.1 (by have := h.2.2.1; omega) _ h.2.2.2.1 _ h.2.2.2.2.1 _ h.2.2.2.2.2).2 v hv).1
theorem zaS_div {a : zA} (h : zaOK a) {v : Nat} (hv : v < 4) : zaS a / 2 ^ v % 2 = (zaH a v).toNat := ((zaS_all a.2.1 (by have := h.2.2.1; omega) _ h.2.2.2.1 _ h.2.2.2.2.1 _ h.2.2.2.2.2).2 v hv).2
theorem zaC_lt {a : zA} (h : zaOK a) (n : Bool) : zaC a n < 65536 := by
  have h1 := zaS_lt h
  obtain ⟨h2, h3, h4, h5, h6, h7⟩ := h
  have h8 : n.toNat ≤ 1 := Bool.toNat_le n
  unfold zaC; omega
theorem zX1_table {a : zA} (h : zaOK a) (n : Bool) : fX1_table (nI (zaC a n)) = some (nI a.1) := by
  have h1 := zaS_lt h
  have h8 : n.toNat ≤ 1 := Bool.toNat_le n
  obtain ⟨h2, h3, h4, h5, h6, h7⟩ := h
  simp only [fX1_table, zi_lit, zi_and, zn_and7]
  unfold zaC
  congr 2; omega
theorem zX1_width {a : zA} (h : zaOK a) (n : Bool) : fX1_width (nI (zaC a n)) = some (nI a.2.1) := by
  have h0 := zaC_lt h n
  have h1 := zaS_lt h
  have h8 : n.toNat ≤ 1 := Bool.toNat_le n
  obtain ⟨h2, h3, h4, h5, h6, h7⟩ := h
  simp (disch := omega) only [fX1_width, zi_lit, zi_and, zn_and3, zi_shrP, Nat.reduceAnd, Nat.reducePow]
  unfold zaC
  congr 2; omega
theorem zX1_isNot {a : zA} (h : zaOK a) (n : Bool) : fX1_isNot (nI (zaC a n)) = some n := by
  have h0 := zaC_lt h n
  have h1 := zaS_lt h
  have h8 : n.toNat ≤ 1 := Bool.toNat_le n
  have e : zaC a n &&& 32768 = 32768 * n.toNat := by
    have t := zpoly_and1 (m := 15) (a := zaC a false) (b := 0) n.toNat 1 (by obtain ⟨h2, h3, h4, h5, h6, h7⟩ := h; unfold zaC; simp; omega) (by decide)
    have e1 : zaC a false + 2 ^ 15 * n.toNat = zaC a n := by unfold zaC; simp
    rw [e1] at t
    rw [show (32768 : Nat) = 0 + 2 ^ 15 * 1 by decide, t]
    cases n <;> simp
  simp (disch := omega) only [fX1_isNot, zi_lit, zi_and, e]
  cases n
  · rfl
  · rw [if_neg (by rw [zi_eq (by decide) (by decide)]; decide)]
theorem zX1_withNot {a : zA} (h : zaOK a) : fX1_withNot (nI (zaC a false)) = some (nI (zaC a true)) := by
  simp only [fX1_withNot, zi_lit, zi_or]
  have e1 : zaC a true = 2 ^ 15 * 1 + zaC a false := by unfold zaC; simp; omega
  have h1 := zaS_lt h
  rw [e1, Nat.two_pow_add_eq_or_of_lt (by obtain ⟨h2, h3, h4, h5, h6, h7⟩ := h; unfold zaC; simp; omega), Nat.or_comm]
theorem zX1_variable {a : zA} (h : zaOK a) (n : Bool) {k : Nat} (hk : k < 3) : fX1_variable (nI (zaC a n)) (nI k) = some (if k < a.2.1 then nI (zaV a k) else -1) := by
  have h0 := zaC_lt h n
  have h1 := zaS_lt h
  have h8 : n.toNat ≤ 1 := Bool.toNat_le n
  have hw : zaC a n / 8 % 4 = a.2.1 := by
    obtain ⟨h2, h3, h4, h5, h6, h7⟩ := h
    unfold zaC; omega
  have hx : zaC a n / 2 ^ (5 + 2 * k) % 4 = zaV a k := by
    obtain ⟨h2, h3, h4, h5, h6, h7⟩ := h
    have : k = 0 ∨ k = 1 ∨ k = 2 := by omega
    rcases this with e | e | e <;> subst e <;> unfold zaC zaV <;> simp only [Nat.reduceMul, Nat.reduceAdd, Nat.reducePow] <;> omega
  have hs : (5 + 2 * k) % 32 = 5 + 2 * k := by omega
  simp (disch := omega) only [fX1_variable, fX1_variable_17, fX1_variable_18, zi_lit, zi_and, zi_add, zi_mul, zn_and3, zn_and31, zi_shrP, zi_lt, zi_le, Nat.reduceAnd, Nat.reducePow, Nat.reduceMod, hs, hx, hw]
  rw [if_neg (by omega)]
  by_cases hc : k < a.2.1
  · rw [if_neg (by omega), if_pos hc, if_neg (by rw [zi_eq (by decide) (by decide)]; decide)]
  · rw [if_pos (by omega), if_neg hc, if_pos trivial]
theorem zX1_variables {a : zA} (h : zaOK a) (n : Bool) : fX1_variables (nI (zaC a n)) = some (nI (zaS a)) := by
  have h0 := zaC_lt h n
  have h1 := zaS_lt h
  have h8 : n.toNat ≤ 1 := Bool.toNat_le n
  simp (disch := omega) only [fX1_variables, zi_lit, zi_and, zn_and15, zi_shrP, Nat.reduceAnd, Nat.reducePow]
  obtain ⟨h2, h3, h4, h5, h6, h7⟩ := h
  congr 2; unfold zaC; omega
theorem zX1_stands {a : zA} (h : zaOK a) (n : Bool) {v : Nat} (hv : v < 4) : fX1_stands (nI (zaC a n)) (nI v) = some (zaH a v) := by
  have h0 := zaC_lt h n
  have h1 := zaS_lt h
  have h8 : n.toNat ≤ 1 := Bool.toNat_le n
  have hd := zaS_div h hv
  have e : zaC a n / 2 ^ (11 + v) % 2 = (zaH a v).toNat := by
    rw [← hd, Nat.pow_add, ← Nat.div_div_eq_div_mul]
    obtain ⟨h2, h3, h4, h5, h6, h7⟩ := h
    have e2 : zaC a n / 2 ^ 11 = zaS a + 16 * n.toNat := by unfold zaC; simp only [Nat.reducePow]; omega
    rw [e2]
    have : v = 0 ∨ v = 1 ∨ v = 2 ∨ v = 3 := by omega
    rcases this with e | e | e | e <;> subst e <;> simp only [Nat.reducePow] <;> omega
  have hs : (11 + v) % 32 = 11 + v := by omega
  simp (disch := omega) only [fX1_stands, zi_lit, zi_and, zi_add, zn_and1, zn_and31, zi_shrP, hs, e]
  cases zaH a v
  · rfl
  · rw [if_neg (by rw [zi_eq (by decide) (by decide)]; decide)]
