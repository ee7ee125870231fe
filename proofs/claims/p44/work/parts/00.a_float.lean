/-! quotients of whole numbers are numbers -/
theorem zd_and (x : UInt64) (h : x.toNat % 2 ^ 63 ≤ 9218868437227405312) : x &&& 0x7fffffffffffffff ≤ 0x7ff0000000000000 := by
  rw [UInt64.le_iff_toNat_le, UInt64.toNat_and]
  show x.toNat &&& 9223372036854775807 ≤ 9218868437227405312
  rw [show (9223372036854775807 : Nat) = 2 ^ 63 - 1 from rfl, Nat.and_two_pow_sub_one_eq_mod]
  exact h
theorem zf_and (x : UInt32) (h : x.toNat % 2 ^ 31 ≤ 2139095040) : x &&& 0x7fffffff ≤ 0x7f800000 := by
  rw [UInt32.le_iff_toNat_le, UInt32.toNat_and]
  show x.toNat &&& 2147483647 ≤ 2139095040
  rw [show (2147483647 : Nat) = 2 ^ 31 - 1 from rfl, Nat.and_two_pow_sub_one_eq_mod]
  exact h
theorem zq_ne {f : Jvm.FP.Core.Fmt} {i j : Int} {x y : Jvm.FP.Core.Datum} (hx : Jvm.FP.Core.Whole i x) (hy : Jvm.FP.Core.Whole j y) (hj : j ≠ 0) : Jvm.FP.Core.quotient f x y ≠ .nan := by
  cases x with
  | nan => exact absurd hx (fun h => h)
  | inf s => exact absurd hx (fun h => h)
  | fin s c q =>
    cases y with
    | nan => exact absurd hy (fun h => h)
    | inf t => exact absurd hy (fun h => h)
    | fin t d r =>
      have hd : d ≠ 0 := by
        intro g
        subst g
        have h : Jvm.FP.Core.signed t (0 * 2 ^ r.toNat) = j * ((2 ^ (-r).toNat : Nat) : Int) := hy
        rw [Nat.zero_mul] at h
        have h0 : Jvm.FP.Core.signed t 0 = 0 := by cases t <;> rfl
        rw [h0] at h
        have hp : ((2 ^ (-r).toNat : Nat) : Int) ≠ 0 := by
          have := Nat.two_pow_pos (-r).toNat
          omega
        rcases Int.mul_eq_zero.mp h.symm with g | g
        · exact hj g
        · exact hp g
      show (if d = 0 then (if c = 0 then Jvm.FP.Core.Datum.nan else .inf (s != t)) else Jvm.FP.Core.roundRatio f (s != t) c d (q - r)) ≠ .nan
      rw [if_neg hd]
      exact Jvm.FP.Core.roundRatio_ne_nan _ _ _ _ _
theorem zd_div (a b : Int32) (hb : b.toInt ≠ 0) : Jvm.FP.ddiv (Jvm.FP.i2d a) (Jvm.FP.i2d b) &&& 0x7fffffffffffffff ≤ 0x7ff0000000000000 := by
  apply zd_and
  rw [← Jvm.FP.Core.ne_nan]
  show Jvm.FP.Core.val64 (Jvm.FP.Core.ddiv (Jvm.FP.Core.i2d a) (Jvm.FP.Core.i2d b)) ≠ .nan
  rw [Jvm.FP.Core.val64_ddiv]
  exact zq_ne (Jvm.FP.Core.i2d_int a) (Jvm.FP.Core.i2d_int b) hb
theorem zf_div (a b : Int32) (ha : a.toInt.natAbs ≤ 2 ^ 24) (hb1 : b.toInt.natAbs ≤ 2 ^ 24) (hb : b.toInt ≠ 0) : Jvm.FP.fdiv (Jvm.FP.i2f a) (Jvm.FP.i2f b) &&& 0x7fffffff ≤ 0x7f800000 := by
  apply zf_and
  rw [← Jvm.FP.Core.ne_nan32]
  show Jvm.FP.Core.val32 (Jvm.FP.Core.fdiv (Jvm.FP.Core.i2f a) (Jvm.FP.Core.i2f b)) ≠ .nan
  rw [Jvm.FP.Core.val32_fdiv]
  exact zq_ne (Jvm.FP.Core.i2f_int ha) (Jvm.FP.Core.i2f_int hb1) hb
theorem zl2d (a : Int32) : Jvm.FP.l2d a.toInt64 = Jvm.FP.i2d a := by
  show UInt64.ofNat (Jvm.FP.Core.fromInt Jvm.FP.Core.b64 a.toInt64.toInt) = UInt64.ofNat (Jvm.FP.Core.fromInt Jvm.FP.Core.b64 a.toInt)
  rw [Int32.toInt_toInt64]
theorem zi_int {a : Nat} (h : a < 2147483648) : (nI a).toInt = a := nI_toInt h
theorem zlI_add {a b : Nat} (h : a + b < 2147483648) : (nI a).toInt64 + (nI b).toInt64 = (nI (a + b)).toInt64 := by
  rw [← Int64.toInt_inj, Int64.toInt_add, Int32.toInt_toInt64, Int32.toInt_toInt64, Int32.toInt_toInt64, zi_int (by omega), zi_int (by omega), zi_int h, Int.bmod_def]
  omega
