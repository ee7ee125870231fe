/-! values of the variables as digits to the base 16 -/
def zch (d : Nat → Nat) : Nat := zpoly 4 d 4
theorem zch_def (d : Nat → Nat) : zch d = d 0 + 16 * d 1 + 256 * d 2 + 4096 * d 3 := by
  unfold zch
  simp only [zpoly, Nat.reducePow, Nat.mul_zero, Nat.add_zero, Nat.zero_add, Nat.reduceAdd]; omega
theorem zch_lt {d : Nat → Nat} (h : ∀ v, v < 4 → d v < 16) : zch d < 65536 := by
  rw [zch_def]; have := h 0 (by omega); have := h 1 (by omega); have := h 2 (by omega); have := h 3 (by omega); omega
theorem zch_cong {d e : Nat → Nat} (h : ∀ v, v < 4 → d v = e v) : zch d = zch e := zpoly_cong 4 4 d e h
theorem zch_dig {d : Nat → Nat} (h : ∀ v, v < 4 → d v < 16) {v : Nat} (hv : v < 4) : zch d / 2 ^ (4 * v) % 16 = d v := by
  rw [zch_def]; have := h 0 (by omega); have := h 1 (by omega); have := h 2 (by omega); have := h 3 (by omega)
  have : v = 0 ∨ v = 1 ∨ v = 2 ∨ v = 3 := by omega
  rcases this with e | e | e | e <;> subst e <;> simp only [Nat.reduceMul, Nat.reducePow] <;> omega
theorem zch_dig2 {d : Nat → Nat} (h : ∀ v, v < 4 → d v < 16) {v : Nat} (hv : v < 4) (m : Nat) (hm : 16 % m = 0) : zch d / 2 ^ (4 * v) % m = d v % m := by
  have := zch_dig h hv
  rw [← this]
  rw [Nat.mod_mod_of_dvd _ (Nat.dvd_of_mod_eq_zero hm)]
theorem zch_m : ∀ v, v < 4 → (((15 : Int32) <<< (((4 : Int32) * nI v) &&& 31)) ^^^ (-1 : Int32)) = nI (zpoly 4 (fun i => if i = v then 0 else 15) 8) := by decide +kernel
theorem zch_8 (d : Nat → Nat) : zch d = zpoly 4 (fun i => if i < 4 then d i else 0) 8 := by
  rw [show (8 : Nat) = 7 + 1 by omega, zpoly_end, show (7 : Nat) = 6 + 1 by omega, zpoly_end, show (6 : Nat) = 5 + 1 by omega, zpoly_end, show (5 : Nat) = 4 + 1 by omega, zpoly_end]
  simp
  exact zpoly_cong 4 4 _ _ (fun i hi => by rw [if_pos hi])
theorem zX1_withoutValue {d : Nat → Nat} (h : ∀ v, v < 4 → d v < 16) {v : Nat} (hv : v < 4) : fX1_withoutValue (nI (zch d)) (nI v) = some (nI (zch (zup d v 0))) := by
  unfold fX1_withoutValue
  rw [zch_m v hv, zi_and, zch_8, zpoly_and, zch_8]
  · congr 2
    apply zpoly_cong
    intro i hi
    rw [zq_at]
    by_cases h4 : i < 4
    · rw [if_pos h4, if_pos h4]
      by_cases e : i = v
      · rw [if_pos e, if_pos e]; simp
      · rw [if_neg e, if_neg e]
        have := Nat.and_two_pow_sub_one_eq_mod (d i) 4
        simp only [Nat.reducePow, Nat.reduceSub] at this
        rw [this, Nat.mod_eq_of_lt (h i h4)]
    · rw [if_neg h4, if_neg h4]; simp
  · intro i _; split
    · rename_i h4; exact h i h4
    · decide
  · intro i _; split <;> decide
theorem zch_up {d : Nat → Nat} (h : ∀ v, v < 4 → d v < 16) {v x : Nat} (hx : x < 16) : ∀ u, u < 4 → zup d v x u < 16 := by
  intro u hu; rw [zq_at]; split
  · exact hx
  · exact h u hu
theorem zch_or (d : Nat → Nat) {v x : Nat} (hv : v < 4) (hd : ∀ v, v < 4 → d v < 16) (h0 : d v = 0) (hx : x < 16) : zch d ||| x * 2 ^ (4 * v) = zch (zup d v x) := by
  have e : x * 2 ^ (4 * v) = zch (zup (fun _ => 0) v x) := by
    rw [zch_def]; simp only [zq_at]
    have : v = 0 ∨ v = 1 ∨ v = 2 ∨ v = 3 := by omega
    rcases this with e | e | e | e <;> subst e <;> simp <;> omega
  rw [e]
  apply Nat.eq_of_testBit_eq
  intro i
  have tb : ∀ f : Nat → Nat, (∀ v, v < 4 → f v < 16) → ∀ i, (zch f).testBit i = (decide (i < 16) && (f (i / 4)).testBit (i % 4)) := by
    intro f hf i
    by_cases hi : i < 16
    · have hi4 : i / 4 < 4 := by omega
      have hdig := zch_dig hf hi4
      rw [← hdig]
      have h2 : (16 : Nat) = 2 ^ 4 := rfl
      rw [h2, Nat.testBit_mod_two_pow, Nat.testBit_div_two_pow]
      have : i % 4 < 4 := by omega
      simp only [hi, this, decide_true, Bool.true_and]
      congr 1; omega
    · have : (zch f).testBit i = false := Nat.testBit_lt_two_pow (Nat.lt_of_lt_of_le (zch_lt hf) (by have := Nat.pow_le_pow_right (show 2 > 0 by decide) (show 16 ≤ i by omega); simpa using this))
      rw [this]; simp [hi]
  rw [Nat.testBit_or, tb d hd, tb _ (zch_up (d := fun _ => 0) (by intro v _; decide) hx), tb _ (zch_up hd hx)]
  rw [zq_at, zq_at]
  by_cases e2 : i / 4 = v
  · rw [if_pos e2, if_pos e2, e2, h0]; simp
  · rw [if_neg e2, if_neg e2]; simp
theorem zn_8or : ∀ x, x < 8 → 8 ||| x = 8 + x := by decide
theorem zX1_withValue {d : Nat → Nat} (h : ∀ v, v < 4 → d v < 16) {v x : Nat} (hv : v < 4) (hx : x < 8) : fX1_withValue (nI (zch d)) (nI v) (nI x) = some (nI (zch (zup d v (8 + x)))) := by
  have e := zX1_withoutValue h hv
  unfold fX1_withoutValue at e
  unfold fX1_withValue
  rw [Option.some.inj e]
  have hs : 4 * v % 32 = 4 * v := by omega
  simp (disch := omega) only [zi_lit, zi_mul, zi_and, zn_and31, hs, zi_or, zi_shlP, zn_8or x hx]
  rw [zch_or _ hv (zch_up h (by omega)) (by rw [zq_at, if_pos rfl]) (by omega)]
  congr 2
  apply zch_cong
  intro u _
  simp only [zq_at]
  split <;> rfl
theorem zX1_hasValue {d : Nat → Nat} (h : ∀ v, v < 4 → d v < 16) {v : Nat} (hv : v < 4) : fX1_hasValue (nI v) (nI (zch d)) = some (decide (8 ≤ d v)) := by
  have hl := zch_lt h
  have hs : 4 * v % 32 = 4 * v := by omega
  have hd := zch_dig h hv
  have e8 : ∀ n, n < 16 → (n &&& 8 = 0 ↔ n < 8) := by decide
  have e : (zch d / 2 ^ (4 * v) &&& 8 = 0) ↔ d v < 8 := by
    rw [← e8 (d v) (h v hv), ← hd]
    have : ∀ X : Nat, X &&& 8 = (X % 16) &&& 8 := by
      intro X
      rw [← zn_and15 X, Nat.and_assoc]; rfl
    rw [this]
  simp (disch := omega) only [fX1_hasValue, zi_lit, zi_mul, zi_and, zn_and31, hs, zi_shrP]
  have hlt : zch d / 2 ^ (4 * v) &&& 8 < 2147483648 := Nat.lt_of_le_of_lt Nat.and_le_right (by decide)
  simp only [zi_eq hlt (show 0 < 2147483648 by decide)]
  by_cases hc : d v < 8
  · rw [if_pos (e.mpr hc), decide_eq_false (by omega)]
  · rw [if_neg (fun q => hc (e.mp q)), decide_eq_true (by omega)]
theorem zX1_valueOf {d : Nat → Nat} (h : ∀ v, v < 4 → d v < 16) {v : Nat} (hv : v < 4) : fX1_valueOf (nI v) (nI (zch d)) = some (nI (d v % 8)) := by
  have hl := zch_lt h
  have hs : 4 * v % 32 = 4 * v := by omega
  simp (disch := omega) only [fX1_valueOf, zi_lit, zi_mul, zi_and, zn_and31, hs, zi_shrP, zn_and7]
  rw [zch_dig2 h hv 8 (by decide)]
theorem zaV_lt {a : zA} (ha : zaOK a) {k : Nat} (hk : k < 3) : zaV a k < 4 := by
  obtain ⟨h2, h3, h4, h5, h6, h7⟩ := ha
  have : k = 0 ∨ k = 1 ∨ k = 2 := by omega
  rcases this with e | e | e <;> subst e <;> assumption
theorem zn_or8 (a b : Nat) (hb : b < 8) : a * 2 ^ 3 ||| b = 8 * a + b := by
  rw [Nat.mul_comm, ← Nat.two_pow_add_eq_or_of_lt hb]
def zrp (a : zA) (d : Nat → Nat) : Nat → Nat
  | 0 => 0
  | i + 1 => 8 * zrp a d i + (if i < a.2.1 then d (zaV a i) else 0)
theorem zrp_3 {a : zA} (ha : zaOK a) (d : Nat → Nat) : zrp a d 3 = zaR a d := by
  obtain ⟨h2, h3, h4, h5, h6, h7⟩ := ha
  unfold zaR
  simp only [zrp, zaV]
  rw [if_pos (by omega)]
  split <;> split <;> omega
theorem zX1_row (K : Nat) (hK : 3 < K) {a : zA} (ha : zaOK a) (n : Bool) {d : Nat → Nat} (h : ∀ v, v < 4 → d v < 16) : fX1_row K (nI (zaC a n)) (nI (zch d)) = some (nI (zaR a (fun v => d v % 8))) := by
  unfold fX1_row
  obtain ⟨r, hr, e⟩ := z_for (F := fun k i (s : Nat) => fX1_row_4 K (nI (zaC a n)) (nI (zch d)) k (nI s) (nI i)) (n := 3) (inv := fun i s => s = zrp a (fun v => d v % 8) i ∧ s < 8 ^ i) (post := fun s => s = nI (zaR a (fun v => d v % 8)))
    (by
      intro k i s hi hv
      obtain ⟨hv, hs⟩ := hv
      left
      refine ⟨zrp a (fun v => d v % 8) (i + 1), ⟨rfl, ?_⟩, ?_⟩
      · show 8 * zrp a (fun v => d v % 8) i + _ < _
        have hm : (fun v => d v % 8) (zaV a i) < 8 := Nat.mod_lt _ (by decide)
        rw [← hv, Nat.pow_succ]; split <;> omega
      · show _ = fX1_row_4 K (nI (zaC a n)) (nI (zch d)) k (nI (8 * zrp a (fun v => d v % 8) i + _)) (nI (i + 1))
        have hm : d (zaV a i) % 8 < 8 := Nat.mod_lt _ (by decide)
        simp (disch := omega) only [fX1_row_4, fX1_row_35, zX1_variable ha n hi, Option.bind_some, zi_lit, zi_le, zi_and, zi_shlP, Nat.reduceAnd, zi_add, zi_or]
        rw [if_neg (by omega)]
        by_cases hc : i < a.2.1
        · have hne : ¬ nI (zaV a i) = -nI 1 := zi_m1 (by have := zaV_lt ha hi; omega)
          simp only [if_pos hc, if_neg hne]
          rw [zX1_valueOf h (zaV_lt ha hi), hv]
          simp only [Option.bind_some, zi_or]
          rw [zn_or8 _ _ hm]
        · simp only [if_neg hc]
          rw [if_pos trivial, zn_or8 _ _ (by decide), hv])
    (by
      intro k s hv
      obtain ⟨hv, hs⟩ := hv
      refine ⟨nI s, by rw [hv, zrp_3 ha], ?_⟩
      simp (disch := omega) only [fX1_row_4, zi_lit, zi_le]
      rw [if_pos (by omega)])
    3 K 0 0 (by omega) ⟨rfl, by decide⟩ (by omega)
  rw [hr] at e; exact e
theorem zX11_valueIn {k j : Nat} (hk : k < 512) (hj : j < 3) : fX11_valueIn (nI k) (nI j) = some (nI (k / 8 ^ (2 - j) % 8)) := by
  have : j = 0 ∨ j = 1 ∨ j = 2 := by omega
  simp (disch := omega) only [fX11_valueIn, zi_lit, zi_and, zn_and7, zi_shrP, zi_eq, Nat.reduceAnd, Nat.reducePow]
  rcases this with e | e | e <;> subst e <;> simp
/-- whether a row has like values where the variables are alike (and none where there is no column) -/
def zcol (k j : Nat) : Nat := k / 8 ^ (2 - j) % 8
def zgd (a : zA) (k : Nat) : Nat → Nat → Nat
  | 0 => fun _ => 0
  | i + 1 => zup (zgd a k i) (zaV a i) (8 + zcol k i)
theorem zgd_lt (a : zA) (k : Nat) : ∀ i v, zgd a k i v < 16
  | 0, v => by show 0 < 16; decide
  | i + 1, v => by
    show zup (zgd a k i) (zaV a i) (8 + zcol k i) v < 16
    rw [zq_at]; split
    · unfold zcol; omega
    · exact zgd_lt a k i v
theorem zX1_agrees (K : Nat) (hK : 3 < K) {a : zA} (ha : zaOK a) (n : Bool) {k : Nat} (hk : k < 512) : fX1_agrees K (nI (zaC a n)) (nI k) = some (decide (zaR a (fun v => zgd a k a.2.1 v % 8) = k)) := by
  unfold fX1_agrees
  have h0 : (0 : Int32) = nI (zch (zgd a k 0)) := by
    have : zch (zgd a k 0) = 0 := by rw [zch_def]; rfl
    rw [this]; rfl
  have ha' := ha
  obtain ⟨h2, h3, h4, h5, h6, h7⟩ := ha'
  obtain ⟨r, hr, e⟩ := z_for (F := fun q i (s : Nat) => fX1_agrees_4 K (nI (zaC a n)) (nI k) q (nI s) (nI i)) (n := a.2.1) (inv := fun i s => s = zch (zgd a k i)) (post := fun s => s = decide (zaR a (fun v => zgd a k a.2.1 v % 8) = k))
    (by
      intro q i s hi hv
      left
      refine ⟨zch (zgd a k (i + 1)), rfl, ?_⟩
      rw [hv]
      simp (disch := omega) only [fX1_agrees_4, zX1_width ha, zX1_variable ha, zX11_valueIn hk, Option.bind_some, zi_lit, zi_le, zi_add]
      rw [if_neg (by omega), if_pos hi, zX1_withValue (fun v _ => zgd_lt a k i v) (zaV_lt ha (by omega)) (by omega)]
      rfl)
    (by
      intro q s hv
      refine ⟨_, rfl, ?_⟩
      rw [hv]
      simp (disch := omega) only [fX1_agrees_4, zX1_width ha, Option.bind_some, zi_le]
      rw [if_pos (by omega), zX1_row K hK ha n (fun v _ => zgd_lt a k _ v)]
      have hb : ∀ w : Nat → Nat, (∀ v, w v < 8) → zaR a w < 512 := by
        intro w hw; unfold zaR
        have := hw a.2.2.1; have := hw a.2.2.2.1; have := hw a.2.2.2.2
        split <;> split <;> omega
      have hlt := hb (fun v => zgd a k a.2.1 v % 8) (fun v => Nat.mod_lt _ (by decide))
      simp (disch := omega) only [Option.bind_some, zi_eq]
      split
      · rename_i h; rw [decide_eq_true h]
      · rename_i h; rw [decide_eq_false h])
    a.2.1 K 0 (zch (zgd a k 0)) (by omega) rfl (by omega)
  rw [← h0] at e
  rw [hr] at e; exact e
/-- like values in the columns of one variable -/
def zaG (a : zA) (k : Nat) : Bool := decide ((1 < a.2.1 → a.2.2.2.1 = a.2.2.1 → zcol k 1 = zcol k 0) ∧ (2 < a.2.1 → a.2.2.2.2 = a.2.2.1 → zcol k 2 = zcol k 0) ∧ (2 < a.2.1 → a.2.2.2.2 = a.2.2.2.1 → zcol k 2 = zcol k 1))
def zin (w k : Nat) : Prop := (w < 2 → zcol k 1 = 0) ∧ (w < 3 → zcol k 2 = 0)
theorem zcol_k {k : Nat} (hk : k < 512) : k = 64 * zcol k 0 + 8 * zcol k 1 + zcol k 2 ∧ zcol k 0 < 8 ∧ zcol k 1 < 8 ∧ zcol k 2 < 8 := by
  unfold zcol; simp only [Nat.reduceSub, Nat.reducePow]; omega
theorem zaG_eq {a : zA} (ha : zaOK a) {k : Nat} (hk : k < 512) (hz : zin a.2.1 k) : decide (zaR a (fun v => zgd a k a.2.1 v % 8) = k) = zaG a k := by
  obtain ⟨e0, e1, e2, e3⟩ := zcol_k hk
  obtain ⟨h2, h3, h4, h5, h6, h7⟩ := ha
  obtain ⟨t, w, x, y, z⟩ := a
  unfold zin at hz
  simp only at h2 h3 h4 h5 h6 h7 hz
  unfold zaG
  rw [decide_eq_decide]
  have hw : w = 1 ∨ w = 2 ∨ w = 3 := by omega
  generalize hc0 : zcol k 0 = c0 at *
  generalize hc1 : zcol k 1 = c1 at *
  generalize hc2 : zcol k 2 = c2 at *
  have m0 : (8 + c0) % 8 = c0 := by omega
  have m1 : (8 + c1) % 8 = c1 := by omega
  have m2 : (8 + c2) % 8 = c2 := by omega
  rcases hw with e | e | e <;> subst e <;> simp only [zaR, zgd, zaV, zq_at, hc0, hc1, hc2]
  · simp [m0, m1, m2]; omega
  · by_cases q1 : y = x
    · subst q1; simp [m0, m1, m2]; omega
    · simp [m0, m1, m2, q1, Ne.symm q1]; omega
  · by_cases q1 : y = x
    · subst q1
      by_cases q2 : z = y
      · subst q2; simp [m0, m1, m2]; omega
      · simp [m0, m1, m2, q2, Ne.symm q2]; omega
    · by_cases q2 : z = x
      · subst q2; simp [m0, m1, m2, q1, Ne.symm q1]; omega
      · by_cases q3 : z = y
        · subst q3; simp [m0, m1, m2, q1, q2, Ne.symm q1, Ne.symm q2]; omega
        · simp [m0, m1, m2, q1, q2, q3, Ne.symm q1, Ne.symm q2, Ne.symm q3]; omega
