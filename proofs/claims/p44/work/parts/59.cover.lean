/-! covers in halves, in the class -/
def zMAX : Nat := 9223372036854775807
def zsat (p z : Nat) : Nat := if p * z ≤ zMAX then p * z else zMAX
def zit (z p : Nat) : Nat → Nat
  | 0 => p
  | h + 1 => zsat (zit z p h) z
def zh (n i : Nat) : Nat := n / 3 ^ i % 3
def zpr (sz : Nat → Nat) (n : Nat) : Nat → Nat
  | 0 => 1
  | i + 1 => zit (sz i) (zpr sz n i) (zh n i)
def zhs (n m : Nat) : Nat := zsum (zh n) m
def zcs (A : Nat → zA) (n v m : Nat) : Nat := zsum (fun i => if zaH (A i) v = true then zh n i else 0) m
def zkv (A : Nat → zA) (m n : Nat) : Bool := zall (fun v => !zany (fun i => zaH (A i) v) m || decide (2 ≤ zcs A n v m)) 4
def zlH (A : Nat → zA) (m : Nat) : Nat → Nat
  | 0 => 10
  | n + 1 => if zkv A m n = true ∧ zhs n m < zlH A m n then zhs n m else zlH A m n
def zlP (A : Nat → zA) (sz : Nat → Nat) (m : Nat) : Nat → Nat
  | 0 => zMAX
  | n + 1 => if zkv A m n = true ∧ zpr sz n m < zlP A sz m n then zpr sz n m else zlP A sz m n
theorem zsat_le (p z : Nat) : zsat p z ≤ zMAX := by unfold zsat; split <;> omega
theorem zsat_0 (p : Nat) : zsat p 0 = 0 := by unfold zsat; rw [Nat.mul_zero, if_pos (Nat.zero_le _)]
theorem zit_le {z p : Nat} (hp : p ≤ zMAX) : ∀ h, zit z p h ≤ zMAX
  | 0 => hp
  | _ + 1 => zsat_le _ _
theorem zpr_le (sz : Nat → Nat) (n : Nat) : ∀ m, zpr sz n m ≤ zMAX
  | 0 => by show 1 ≤ 9223372036854775807; decide
  | m + 1 => zit_le (zpr_le sz n m) _
theorem zh_lt (n i : Nat) : zh n i < 3 := Nat.mod_lt _ (by decide)
theorem zhs_le (n : Nat) : ∀ m, zhs n m ≤ 2 * m := by
  intro m
  induction m with
  | zero => exact Nat.le_refl 0
  | succ m ih =>
    show zhs n m + zh n m ≤ _
    have := zh_lt n m
    omega
theorem zlH_le (A : Nat → zA) (m : Nat) : ∀ n, zlH A m n ≤ 10
  | 0 => Nat.le_refl _
  | n + 1 => by
    have := zlH_le A m n
    rw [zlH]
    split <;> omega
theorem zlP_le (A : Nat → zA) (sz : Nat → Nat) (m : Nat) : ∀ n, zlP A sz m n ≤ zMAX
  | 0 => Nat.le_refl _
  | n + 1 => by
    have := zlP_le A sz m n
    rw [zlP]
    split <;> omega
theorem zlg_le (x y : Int64) : (lg_cmp x y ≤ (0 : Int32)) ↔ x ≤ y := by
  unfold lg_cmp
  by_cases h : x > y
  · rw [if_pos h]
    constructor
    · intro q; exact absurd q (by decide)
    · intro q; exact absurd (Int64.lt_of_lt_of_le h q) (Int64.lt_irrefl)
  · rw [if_neg h]
    have hle : x ≤ y := Int64.not_lt.mp h
    by_cases e : x = y
    · rw [if_pos e]; exact ⟨fun _ => hle, fun _ => by decide⟩
    · rw [if_neg e]; exact ⟨fun _ => hle, fun _ => by decide⟩
theorem zMAX_lt : zMAX < 2 ^ 63 := by unfold zMAX; decide
theorem zMAX_lit : (9223372036854775807 : Int64) = lN zMAX := rfl
theorem zX3_times {p z : Nat} (hp : p ≤ zMAX) (hz : z < 2147483648) : fX3_times (lN p) (nI z) = some (lN (zsat p z)) := by
  have hM := zMAX_lt
  unfold fX3_times
  by_cases h0 : z = 0
  · subst h0
    rw [if_pos (show nI 0 = 0 from rfl), zsat_0]; rfl
  · rw [if_neg (show ¬ nI z = 0 by rw [show (0 : Int32) = nI 0 from rfl, zi_eq hz (by omega)]; exact h0), nI_l hz, if_neg (show ¬ lN z = 0 by rw [show (0 : Int64) = lN 0 from rfl, pk_lEQ (by omega) (by omega)]; exact h0), zMAX_lit, pk_lDiv hM (by omega) (by omega)]
    have hd : zMAX / z < 2 ^ 63 := Nat.lt_of_le_of_lt (Nat.div_le_self _ _) hM
    have hiff : (lg_cmp (lN p) (lN (zMAX / z)) ≤ 0) ↔ p * z ≤ zMAX := by
      rw [zlg_le, pk_lLE (by omega) hd, Nat.le_div_iff_mul_le (by omega)]
    unfold zsat
    by_cases g : p * z ≤ zMAX
    · rw [if_pos (hiff.mpr g), if_pos g, lN_mul]
    · rw [if_neg (fun q => g (hiff.mp q)), if_neg g]
/-! bits of four -/
theorem z16_ext {a b : Nat} (ha : a < 16) (hb : b < 16) (h : ∀ v, v < 4 → a.testBit v = b.testBit v) : a = b := by
  apply Nat.eq_of_testBit_eq
  intro i
  by_cases g : i < 4
  · exact h i g
  · rw [Nat.testBit_lt_two_pow (Nat.lt_of_lt_of_le ha (by rw [show (16 : Nat) = 2 ^ 4 from rfl]; exact Nat.pow_le_pow_right (by decide) (by omega))), Nat.testBit_lt_two_pow (Nat.lt_of_lt_of_le hb (by rw [show (16 : Nat) = 2 ^ 4 from rfl]; exact Nat.pow_le_pow_right (by decide) (by omega)))]
theorem z16_or {a b : Nat} (ha : a < 16) (hb : b < 16) : a ||| b < 16 := Nat.or_lt_two_pow (n := 4) ha hb
theorem z16_and {a b : Nat} (hb : b < 16) : a &&& b < 16 := Nat.and_lt_two_pow (n := 4) a hb
def zot (o t : Nat) (c : Nat → Nat) : Prop := o < 16 ∧ t < 16 ∧ ∀ v, v < 4 → o.testBit v = decide (1 ≤ c v) ∧ t.testBit v = decide (2 ≤ c v)
theorem zot_step {o t : Nat} {c : Nat → Nat} (h : zot o t c) {a : zA} (ha : zaOK a) : zot (o ||| zaS a) (t ||| (o &&& zaS a)) (fun v => c v + if zaH a v = true then 1 else 0) := by
  obtain ⟨h1, h2, h3⟩ := h
  have hl := zaS_lt ha
  refine ⟨z16_or h1 hl, z16_or h2 (z16_and hl), ?_⟩
  intro v hv
  obtain ⟨e1, e2⟩ := h3 v hv
  rw [Nat.testBit_or, Nat.testBit_or, Nat.testBit_and, e1, e2, zaS_bit ha hv]
  show (decide (1 ≤ c v) || zaH a v) = decide (1 ≤ c v + if zaH a v = true then 1 else 0) ∧ (decide (2 ≤ c v) || (decide (1 ≤ c v) && zaH a v)) = decide (2 ≤ c v + if zaH a v = true then 1 else 0)
  generalize c v = n
  cases zaH a v
  · rw [if_neg (by decide), Bool.and_false, Bool.or_false, Bool.or_false, Nat.add_zero]; exact ⟨rfl, rfl⟩
  · rw [if_pos rfl, Bool.and_true, Bool.or_true]
    constructor
    · rw [decide_eq_true (show 1 ≤ n + 1 by omega)]
    · by_cases g : 1 ≤ n
      · rw [decide_eq_true g, Bool.or_true, decide_eq_true (show 2 ≤ n + 1 by omega)]
      · rw [decide_eq_false g, decide_eq_false (show ¬ 2 ≤ n by omega), decide_eq_false (show ¬ 2 ≤ n + 1 by omega)]; rfl
