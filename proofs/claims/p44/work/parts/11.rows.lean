/-! sets of rows: words of bits -/
theorem zi_shlP (a : Nat) {k : Nat} (hk : k < 32) : nI a <<< nI k = nI (a * 2 ^ k) := by
  have e : ∀ k, k < 32 → (nI k).toBitVec.smod 32 = (nI k &&& 31).toBitVec.smod 32 := by decide +kernel
  have := zi_shl a hk
  rw [Nat.shiftLeft_eq] at this
  rw [← this]
  apply Int32.toBitVec_inj.1
  show (nI a).toBitVec <<< ((nI k).toBitVec.smod 32) = (nI a).toBitVec <<< ((nI k &&& 31).toBitVec.smod 32)
  rw [e k hk]
theorem zi_shrP {a k : Nat} (ha : a < 2147483648) (hk : k < 32) : nI a >>> nI k = nI (a / 2 ^ k) := by
  have e : ∀ k, k < 32 → (nI k).toBitVec.smod 32 = (nI k &&& 31).toBitVec.smod 32 := by decide +kernel
  have := zi_shr ha hk
  rw [Nat.shiftRight_eq_div_pow] at this
  rw [← this]
  apply Int32.toBitVec_inj.1
  show (nI a).toBitVec.sshiftRight' ((nI k).toBitVec.smod 32) = (nI a).toBitVec.sshiftRight' ((nI k &&& 31).toBitVec.smod 32)
  rw [e k hk]
theorem zn_and1 (a : Nat) : a &&& 1 = a % 2 := Nat.and_two_pow_sub_one_eq_mod a 1
theorem zn_and3 (a : Nat) : a &&& 3 = a % 4 := Nat.and_two_pow_sub_one_eq_mod a 2
theorem zn_and7 (a : Nat) : a &&& 7 = a % 8 := Nat.and_two_pow_sub_one_eq_mod a 3
theorem zn_and15 (a : Nat) : a &&& 15 = a % 16 := Nat.and_two_pow_sub_one_eq_mod a 4
theorem zn_and31 (a : Nat) : a &&& 31 = a % 32 := Nat.and_two_pow_sub_one_eq_mod a 5
theorem zn_and63 (a : Nat) : a &&& 63 = a % 64 := Nat.and_two_pow_sub_one_eq_mod a 6
theorem zn_and127 (a : Nat) : a &&& 127 = a % 128 := Nat.and_two_pow_sub_one_eq_mod a 7
theorem zi_b0 (b : Bool) : (bI b = nI 0) = (b = false) := by cases b <;> decide
theorem zi_b1 (b : Bool) : (bI b = nI 1) = (b = true) := by cases b <;> decide
def zb (w : Int64) (j : Nat) : Bool := w.toBitVec.getLsbD j
theorem zb_ext {x y : Int64} (h : ∀ j, j < 64 → zb x j = zb y j) : x = y := Int64.toBitVec_inj.mp (BitVec.eq_of_getLsbD_eq (fun i hi => h i hi))
theorem zb_or (x y : Int64) (j : Nat) : zb (x ||| y) j = (zb x j || zb y j) := by unfold zb; rw [Int64.toBitVec_or, BitVec.getLsbD_or]
theorem zb_and (x y : Int64) (j : Nat) : zb (x &&& y) j = (zb x j && zb y j) := by unfold zb; rw [Int64.toBitVec_and, BitVec.getLsbD_and]
theorem zb_not (x : Int64) {j : Nat} (hj : j < 64) : zb (x ^^^ (-1 : Int64)) j = !zb x j := by
  unfold zb; rw [Int64.toBitVec_xor, BitVec.getLsbD_xor]
  have ha : (-1 : Int64).toBitVec = BitVec.allOnes 64 := by decide
  rw [ha, BitVec.getLsbD_allOnes]; simp [hj]
theorem zb_0 (j : Nat) : zb 0 j = false := by unfold zb; exact BitVec.getLsbD_zero
theorem zb_m1 {j : Nat} (hj : j < 64) : zb (-1) j = true := by
  have ha : (-1 : Int64).toBitVec = BitVec.allOnes 64 := by decide
  unfold zb; rw [ha, BitVec.getLsbD_allOnes]; simp [hj]
theorem zb_c : ∀ k, k < 64 → ((nI k).toInt64 &&& 63).toBitVec.smod 64 = BitVec.ofNat 64 k := by decide +kernel
theorem zb_one : ∀ k, k < 64 → ((1 : Int64) <<< ((nI k).toInt64 &&& 63)).toBitVec = BitVec.twoPow 64 k := by decide +kernel
theorem zb_1 {k j : Nat} (hk : k < 64) (hj : j < 64) : zb ((1 : Int64) <<< ((nI k).toInt64 &&& 63)) j = decide (j = k) := by
  unfold zb; rw [zb_one k hk, BitVec.getLsbD_twoPow]; simp only [hk, decide_true, Bool.true_and]; exact decide_eq_decide.mpr eq_comm
theorem zl_cmp0 (x y : Int64) : (lg_cmp x y = nI 0) = (x = y) := by
  unfold lg_cmp
  apply propext
  split
  · rename_i h; constructor
    · intro e; exact absurd e (by decide)
    · intro e; subst e; exact absurd h (Int64.lt_irrefl)
  · split
    · rename_i h; exact ⟨fun _ => h, fun _ => rfl⟩
    · rename_i h; constructor
      · intro e; exact absurd e (by decide)
      · intro e; exact absurd e h
theorem zb_at {w : Int64} {k : Nat} (hk : k < 64) : ((w >>> ((nI k).toInt64 &&& 63)) &&& (1 : Int64) = (0 : Int64)) = (zb w k = false) := by
  have e : (w >>> ((nI k).toInt64 &&& 63)).toBitVec = w.toBitVec.sshiftRight k := by
    show w.toBitVec.sshiftRight' (((nI k).toInt64 &&& 63).toBitVec.smod 64) = _
    rw [zb_c k hk]
    show w.toBitVec.sshiftRight (BitVec.ofNat 64 k).toNat = _
    rw [BitVec.toNat_ofNat, Nat.mod_eq_of_lt (by omega)]
  apply propext
  rw [← Int64.toBitVec_inj, Int64.toBitVec_and, e]
  show w.toBitVec.sshiftRight k &&& 1#64 = 0#64 ↔ _
  unfold zb
  constructor
  · intro h
    have t := congrArg (fun x => x.getLsbD 0) h
    simp only [BitVec.getLsbD_and, BitVec.getLsbD_sshiftRight, BitVec.getLsbD_zero] at t
    have h1 : (1#64).getLsbD 0 = true := by decide
    rw [h1] at t
    simpa [hk] using t
  · intro h
    apply BitVec.eq_of_getLsbD_eq
    intro i hi
    rw [BitVec.getLsbD_and, BitVec.getLsbD_sshiftRight, BitVec.getLsbD_zero]
    cases i with
    | zero => simp [hk]; rw [← BitVec.getLsbD_eq_getElem]; exact h
    | succ i => simp
/-- whether a row stands in the words -/
def zw (w : Nat → Int64) (t k : Nat) : Bool := zb (w (8 * t + k / 64)) (k % 64)
theorem zX7_has (w : Nat → Int64) {t k : Nat} (ht : t < 5) (hk : k < 512) : fX7_has w (nI t) (nI k) = some (zw w t k) := by
  simp (disch := omega) only [fX7_has, zi_lit, zi_mul, zi_and, zi_shrP, zi_add, zi_lt, zi_le, zi_inB, zi_clamp, zn_and63, Nat.reduceAnd, Nat.reducePow]
  rw [if_neg (by omega), if_neg (by omega), if_pos (by omega)]
  simp only [zl_cmp0]
  rw [show t * 8 + k / 64 = 8 * t + k / 64 by omega]
  simp only [zb_at (show k % 64 < 64 by omega)]
  unfold zw
  cases h : zb (w (8 * t + k / 64)) (k % 64) <;> simp
theorem zX7_add (w : Nat → Int64) {t k : Nat} (ht : t < 5) (hk : k < 512) : ∃ w', fX7_add (nI t) (nI k) w = some w' ∧ ∀ t' k', t' < 5 → k' < 512 → zw w' t' k' = (zw w t' k' || (decide (t' = t) && decide (k' = k))) := by
  simp (disch := omega) only [fX7_add, zi_lit, zi_mul, zi_and, zi_shrP, zi_add, zi_lt, zi_le, zi_inB, zi_clamp, zn_and63, Nat.reduceAnd, Nat.reducePow]
  rw [if_neg (by omega), if_neg (by omega), if_pos (by omega), if_pos (by omega)]
  refine ⟨_, rfl, ?_⟩
  intro t' k' ht' hk'
  unfold zw
  rw [zl_at]
  split
  · rename_i h
    rw [zb_or, zb_1 (by omega) (by omega), h]
    congr 1
    rw [← Bool.decide_and, decide_eq_decide]
    omega
  · rename_i h
    have : ¬ (t' = t ∧ k' = k) := by omega
    rw [← Bool.decide_and, decide_eq_false this, Bool.or_false]
theorem zX7_remove (w : Nat → Int64) {t k : Nat} (ht : t < 5) (hk : k < 512) : ∃ w', fX7_remove (nI t) (nI k) w = some w' ∧ ∀ t' k', t' < 5 → k' < 512 → zw w' t' k' = (zw w t' k' && !(decide (t' = t) && decide (k' = k))) := by
  simp (disch := omega) only [fX7_remove, zi_lit, zi_mul, zi_and, zi_shrP, zi_add, zi_lt, zi_le, zi_inB, zi_clamp, zn_and63, Nat.reduceAnd, Nat.reducePow]
  rw [if_neg (by omega), if_neg (by omega), if_pos (by omega), if_pos (by omega)]
  refine ⟨_, rfl, ?_⟩
  intro t' k' ht' hk'
  unfold zw
  rw [zl_at]
  split
  · rename_i h
    rw [zb_and, zb_not _ (by omega), zb_1 (by omega) (by omega), h]
    congr 2
    rw [← Bool.decide_and, decide_eq_decide]
    omega
  · rename_i h
    have : ¬ (t' = t ∧ k' = k) := by omega
    rw [← Bool.decide_and, decide_eq_false this]; simp
