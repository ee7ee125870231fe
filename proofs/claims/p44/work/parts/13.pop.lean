/-! the count of the bits of a word, as the JDK reckons it -/
def zpoly (m : Nat) (d : Nat → Nat) : Nat → Nat
  | 0 => 0
  | n + 1 => d 0 + 2 ^ m * zpoly m (fun i => d (i + 1)) n
theorem zpoly_s (m : Nat) (d : Nat → Nat) (n : Nat) : zpoly m d (n + 1) = d 0 + 2 ^ m * zpoly m (fun i => d (i + 1)) n := rfl
theorem zpoly_cong (m : Nat) : ∀ n (d e : Nat → Nat), (∀ i, i < n → d i = e i) → zpoly m d n = zpoly m e n
  | 0, _, _, _ => rfl
  | n + 1, d, e, h => by
    rw [zpoly_s, zpoly_s, h 0 (by omega), zpoly_cong m n _ _ (fun i hi => h (i + 1) (by omega))]
theorem zpoly_add (m : Nat) : ∀ n (d e : Nat → Nat), zpoly m (fun i => d i + e i) n = zpoly m d n + zpoly m e n
  | 0, _, _ => rfl
  | n + 1, d, e => by
    rw [zpoly_s, zpoly_s, zpoly_s, zpoly_add m n (fun i => d (i + 1)) (fun i => e (i + 1)), Nat.mul_add]; omega
theorem zpoly_lt (m : Nat) : ∀ n (d : Nat → Nat), (∀ i, i < n → d i < 2 ^ m) → zpoly m d n < 2 ^ (m * n)
  | 0, _, _ => by simp [zpoly]
  | n + 1, d, h => by
    rw [zpoly_s, Nat.mul_succ, Nat.pow_add, Nat.mul_comm (2 ^ (m * n))]
    have h1 := zpoly_lt m n (fun i => d (i + 1)) (fun i hi => h (i + 1) (by omega))
    have h2 := h 0 (by omega)
    calc d 0 + 2 ^ m * zpoly m (fun i => d (i + 1)) n < 2 ^ m + 2 ^ m * zpoly m (fun i => d (i + 1)) n := by omega
      _ = 2 ^ m * (zpoly m (fun i => d (i + 1)) n + 1) := by rw [Nat.mul_add]; omega
      _ ≤ 2 ^ m * 2 ^ (m * n) := Nat.mul_le_mul_left _ h1
theorem zpoly_end (m : Nat) : ∀ n (d : Nat → Nat), zpoly m d (n + 1) = zpoly m d n + 2 ^ (m * n) * d n
  | 0, d => by rw [zpoly_s]; simp [zpoly]
  | n + 1, d => by
    rw [zpoly_s m d (n + 1), zpoly_end m n (fun i => d (i + 1)), zpoly_s m d n, Nat.mul_add, Nat.mul_succ, Nat.pow_add, Nat.mul_comm (2 ^ (m * n)) (2 ^ m), Nat.mul_assoc]; omega
theorem zpoly_div (m : Nat) (n : Nat) (d : Nat → Nat) (h0 : d 0 < 2 ^ m) (hn : d n = 0) : zpoly m d n / 2 ^ m = zpoly m (fun i => d (i + 1)) n := by
  have : zpoly m d n = zpoly m d (n + 1) := by rw [zpoly_end, hn]; simp
  rw [this, zpoly_s, Nat.add_mul_div_left _ _ (Nat.two_pow_pos m), Nat.div_eq_of_lt h0, Nat.zero_add]
theorem zpoly_and1 {m a b : Nat} (x y : Nat) (ha : a < 2 ^ m) (hb : b < 2 ^ m) : (a + 2 ^ m * x) &&& (b + 2 ^ m * y) = (a &&& b) + 2 ^ m * (x &&& y) := by
  apply Nat.eq_of_testBit_eq
  intro i
  rw [Nat.add_comm a, Nat.add_comm b, Nat.add_comm (a &&& b), Nat.testBit_and, Nat.testBit_two_pow_mul_add _ ha, Nat.testBit_two_pow_mul_add _ hb, Nat.testBit_two_pow_mul_add _ (Nat.lt_of_le_of_lt Nat.and_le_left ha)]
  split
  · rw [Nat.testBit_and]
  · rw [Nat.testBit_and]
theorem zpoly_and (m : Nat) : ∀ n (d e : Nat → Nat), (∀ i, i < n → d i < 2 ^ m) → (∀ i, i < n → e i < 2 ^ m) → zpoly m d n &&& zpoly m e n = zpoly m (fun i => d i &&& e i) n
  | 0, _, _, _, _ => by simp [zpoly]
  | n + 1, d, e, h, h' => by
    rw [zpoly_s, zpoly_s, zpoly_s, zpoly_and1 _ _ (h 0 (by omega)) (h' 0 (by omega)), zpoly_and m n _ _ (fun i hi => h (i + 1) (by omega)) (fun i hi => h' (i + 1) (by omega))]
theorem zpoly_pair (m : Nat) : ∀ n (d : Nat → Nat), zpoly m d (2 * n) = zpoly (2 * m) (fun i => d (2 * i) + 2 ^ m * d (2 * i + 1)) n
  | 0, _ => rfl
  | n + 1, d => by
    rw [show 2 * (n + 1) = 2 * n + 1 + 1 by omega, zpoly_s, zpoly_s, zpoly_s, zpoly_pair m n (fun i => d (i + 1 + 1)), Nat.mul_add, ← Nat.mul_assoc, show 2 * m = m + m by omega, Nat.pow_add]
    have : (fun i => d (2 * i + 1 + 1) + 2 ^ m * d (2 * i + 1 + 1 + 1)) = (fun i => d (2 * (i + 1)) + 2 ^ m * d (2 * (i + 1) + 1)) := by
      funext i; rw [show 2 * i + 1 + 1 = 2 * (i + 1) by omega]
    rw [this, show 0 + 1 = 2 * 0 + 1 by omega, show 2 * 0 = 0 by omega]; omega
theorem zpoly_bits : ∀ n X, X < 2 ^ n → X = zpoly 1 (fun j => (X.testBit j).toNat) n
  | 0, X, h => by simp at h; simp [h, zpoly]
  | n + 1, X, h => by
    have h1 := zpoly_bits n (X / 2) (by rw [Nat.pow_succ] at h; omega)
    rw [zpoly_s]
    have e : (fun i => (X.testBit (i + 1)).toNat) = (fun j => ((X / 2).testBit j).toNat) := by
      funext i; rw [Nat.testBit_succ]
    rw [e, ← h1]
    have : (X.testBit 0).toNat = X % 2 := by
      rw [Nat.testBit_zero]; rcases Nat.mod_two_eq_zero_or_one X with h | h <;> rw [h] <;> rfl
    rw [this]; omega
/-- every other digit -/
theorem zpoly_mask (m n : Nat) (d : Nat → Nat) (hd : ∀ i, i < 2 * n → d i < 2 ^ m) (M : Nat) (hM : M = zpoly m (fun i => if i % 2 = 0 then 2 ^ m - 1 else 0) (2 * n)) : zpoly m d (2 * n) &&& M = zpoly (2 * m) (fun i => d (2 * i)) n := by
  have hp : 0 < 2 ^ m := Nat.two_pow_pos m
  rw [hM, zpoly_and m _ _ _ hd (by intro i _; split <;> omega), zpoly_pair]
  apply zpoly_cong
  intro i hi
  rw [if_pos (by omega), if_neg (by omega), Nat.and_two_pow_sub_one_eq_mod, Nat.mod_eq_of_lt (hd _ (by omega))]
  simp
theorem zpop_eq (b : Nat → Nat) (hb : ∀ i, b i ≤ 1) (hz : ∀ i, 64 ≤ i → b i = 0) :
    let X := zpoly 1 b 64
    let X1 := X - (X / 2 &&& 6148914691236517205)
    let X2 := (X1 &&& 3689348814741910323) + (X1 / 4 &&& 3689348814741910323)
    let X3 := (X2 + X2 / 16) &&& 1085102592571150095
    let X4 := X3 + X3 / 256
    let X5 := X4 + X4 / 65536
    let X6 := X5 + X5 / 4294967296
    (X / 2 &&& 6148914691236517205) ≤ X ∧ X < 2 ^ 64 ∧ X1 < 2 ^ 64 ∧ X2 < 2 ^ 64 ∧ X3 < 2 ^ 64 ∧ X4 < 2 ^ 64 ∧ X5 < 2 ^ 64 ∧ X6 % 128 = zsum b 64 := by
  intro X X1 X2 X3 X4 X5 X6
  have hX : X < 2 ^ 64 := zpoly_lt 1 64 b (fun i _ => by have := hb i; omega)
  have hY : X / 2 &&& 6148914691236517205 = zpoly 2 (fun i => b (2 * i + 1)) 32 := by
    have := zpoly_div 1 64 b (by have := hb 0; omega) (hz 64 (by omega))
    rw [Nat.pow_one] at this
    show zpoly 1 b 64 / 2 &&& _ = _
    rw [this]
    exact zpoly_mask 1 32 (fun i => b (i + 1)) (fun i _ => by have := hb (i + 1); omega) _ (by decide +kernel)
  have hXp : X = zpoly 2 (fun i => b (2 * i) + 2 * b (2 * i + 1)) 32 := zpoly_pair 1 32 b
  have hsum : X = zpoly 2 (fun i => b (2 * i) + b (2 * i + 1)) 32 + zpoly 2 (fun i => b (2 * i + 1)) 32 := by
    rw [hXp, ← zpoly_add]; apply zpoly_cong; intro i _; omega
  have h1 : X1 = zpoly 2 (fun i => b (2 * i) + b (2 * i + 1)) 32 := by
    show X - (X / 2 &&& 6148914691236517205) = _
    rw [hY]; omega
  have hYX : (X / 2 &&& 6148914691236517205) ≤ X := by rw [hY]; omega
  generalize hc : (fun i => b (2 * i) + b (2 * i + 1)) = c at h1
  have hcb : ∀ i, c i ≤ 2 := by intro i; rw [← hc]; have := hb (2 * i); have := hb (2 * i + 1); show b (2 * i) + b (2 * i + 1) ≤ 2; omega
  have hcz : ∀ i, 32 ≤ i → c i = 0 := by intro i hi; rw [← hc]; have := hz (2 * i) (by omega); have := hz (2 * i + 1) (by omega); show b (2 * i) + b (2 * i + 1) = 0; omega
  have hX1 : X1 < 2 ^ 64 := by rw [h1]; exact zpoly_lt 2 32 c (fun i _ => by have := hcb i; omega)
  have h2 : X2 = zpoly 4 (fun i => c (2 * i) + c (2 * i + 1)) 16 := by
    show (X1 &&& 3689348814741910323) + (X1 / 4 &&& 3689348814741910323) = _
    have e1 : X1 &&& 3689348814741910323 = zpoly 4 (fun i => c (2 * i)) 16 := by
      rw [h1]; exact zpoly_mask 2 16 c (fun i _ => by have := hcb i; omega) _ (by decide +kernel)
    have e2 : X1 / 4 &&& 3689348814741910323 = zpoly 4 (fun i => c (2 * i + 1)) 16 := by
      have := zpoly_div 2 32 c (by have := hcb 0; omega) (hcz 32 (by omega))
      rw [h1, show (4 : Nat) = 2 ^ 2 by decide, this]
      exact zpoly_mask 2 16 (fun i => c (i + 1)) (fun i _ => by have := hcb (i + 1); omega) _ (by decide +kernel)
    rw [e1, e2, ← zpoly_add]
  generalize he : (fun i => c (2 * i) + c (2 * i + 1)) = e at h2
  have heb : ∀ i, e i ≤ 4 := by intro i; rw [← he]; have := hcb (2 * i); have := hcb (2 * i + 1); show c (2 * i) + c (2 * i + 1) ≤ 4; omega
  have hez : ∀ i, 16 ≤ i → e i = 0 := by intro i hi; rw [← he]; have := hcz (2 * i) (by omega); have := hcz (2 * i + 1) (by omega); show c (2 * i) + c (2 * i + 1) = 0; omega
  have hX2 : X2 < 2 ^ 64 := by rw [h2]; exact zpoly_lt 4 16 e (fun i _ => by have := heb i; omega)
  have h3 : X3 = zpoly 8 (fun i => e (2 * i) + e (2 * i + 1)) 8 := by
    show (X2 + X2 / 16) &&& 1085102592571150095 = _
    have := zpoly_div 4 16 e (by have := heb 0; omega) (hez 16 (by omega))
    rw [h2, show (16 : Nat) = 2 ^ 4 by decide, this, ← zpoly_add]
    exact zpoly_mask 4 8 (fun i => e i + e (i + 1)) (fun i _ => by have := heb i; have := heb (i + 1); show e i + e (i + 1) < 2 ^ 4; omega) _ (by decide +kernel)
  generalize hg : (fun i => e (2 * i) + e (2 * i + 1)) = g at h3
  have hgb : ∀ i, g i ≤ 8 := by intro i; rw [← hg]; have := heb (2 * i); have := heb (2 * i + 1); show e (2 * i) + e (2 * i + 1) ≤ 8; omega
  have hgz : ∀ i, 8 ≤ i → g i = 0 := by intro i hi; rw [← hg]; have := hez (2 * i) (by omega); have := hez (2 * i + 1) (by omega); show e (2 * i) + e (2 * i + 1) = 0; omega
  have hX3 : X3 < 2 ^ 64 := by rw [h3]; exact zpoly_lt 8 8 g (fun i _ => by have := hgb i; omega)
  have h4 : X4 = zpoly 8 (fun i => g i + g (i + 1)) 8 := by
    show X3 + X3 / 256 = _
    have := zpoly_div 8 8 g (by have := hgb 0; omega) (hgz 8 (by omega))
    rw [h3, show (256 : Nat) = 2 ^ 8 by decide, this, ← zpoly_add]
  generalize hh : (fun i => g i + g (i + 1)) = h at h4
  have hhb : ∀ i, h i ≤ 16 := by intro i; rw [← hh]; have := hgb i; have := hgb (i + 1); show g i + g (i + 1) ≤ 16; omega
  have hhz : ∀ i, 8 ≤ i → h i = 0 := by intro i hi; rw [← hh]; have := hgz i hi; have := hgz (i + 1) (by omega); show g i + g (i + 1) = 0; omega
  have hX4 : X4 < 2 ^ 64 := by rw [h4]; exact zpoly_lt 8 8 h (fun i _ => by have := hhb i; omega)
  have h5 : X5 = zpoly 8 (fun i => h i + h (i + 2)) 8 := by
    show X4 + X4 / 65536 = _
    have e1 := zpoly_div 8 8 h (by have := hhb 0; omega) (hhz 8 (by omega))
    have e2 := zpoly_div 8 8 (fun i => h (i + 1)) (by have := hhb 1; show h 1 < 2 ^ 8; omega) (hhz 9 (by omega))
    rw [h4, show (65536 : Nat) = 2 ^ 8 * 2 ^ 8 by decide, ← Nat.div_div_eq_div_mul, e1, e2, ← zpoly_add]
  generalize hk : (fun i => h i + h (i + 2)) = k at h5
  have hkb : ∀ i, k i ≤ 32 := by intro i; rw [← hk]; have := hhb i; have := hhb (i + 2); show h i + h (i + 2) ≤ 32; omega
  have hkz : ∀ i, 8 ≤ i → k i = 0 := by intro i hi; rw [← hk]; have := hhz i hi; have := hhz (i + 2) (by omega); show h i + h (i + 2) = 0; omega
  have hX5 : X5 < 2 ^ 64 := by rw [h5]; exact zpoly_lt 8 8 k (fun i _ => by have := hkb i; omega)
  have h6 : X6 = zpoly 8 (fun i => k i + k (i + 4)) 8 := by
    show X5 + X5 / 4294967296 = _
    have e1 := zpoly_div 8 8 k (by have := hkb 0; omega) (hkz 8 (by omega))
    have e2 := zpoly_div 8 8 (fun i => k (i + 1)) (by have := hkb 1; show k 1 < 2 ^ 8; omega) (hkz 9 (by omega))
    have e3 := zpoly_div 8 8 (fun i => k (i + 1 + 1)) (by have := hkb 2; show k 2 < 2 ^ 8; omega) (hkz 10 (by omega))
    have e4 := zpoly_div 8 8 (fun i => k (i + 1 + 1 + 1)) (by have := hkb 3; show k 3 < 2 ^ 8; omega) (hkz 11 (by omega))
    rw [h5, show (4294967296 : Nat) = 2 ^ 8 * 2 ^ 8 * 2 ^ 8 * 2 ^ 8 by decide, ← Nat.div_div_eq_div_mul, ← Nat.div_div_eq_div_mul, ← Nat.div_div_eq_div_mul, e1, e2, e3, e4, ← zpoly_add]
  refine ⟨hYX, hX, hX1, hX2, hX3, hX4, hX5, ?_⟩
  rw [h6, zpoly_s]
  have hlow : k 0 + k (0 + 4) = zsum b 64 := by
    simp only [← hk, ← hh, ← hg, ← he, ← hc, zsum]
    simp only [Nat.reduceMul, Nat.reduceAdd, Nat.zero_add, Nat.mul_zero]
    omega
  have : k 0 + k (0 + 4) ≤ 64 := by have := hkb 0; have := hkb 4; show k 0 + k 4 ≤ 64; omega
  rw [← hlow]
  omega
theorem zlN_and (a b : Nat) : lN a &&& lN b = lN (a &&& b) := by
  apply Int64.toBitVec_inj.1
  show BitVec.ofNat 64 a &&& BitVec.ofNat 64 b = BitVec.ofNat 64 (a &&& b)
  apply BitVec.eq_of_getLsbD_eq
  intro i hi
  simp [hi]
theorem zlN_cu : ∀ k, k < 64 → ((nI k).toInt64.toUInt64 &&& Int64.toUInt64 63) = UInt64.ofNat k := by decide +kernel
theorem zlN_ush {n k : Nat} (hn : n < 2 ^ 64) (hk : k < 64) : ((lN n).toUInt64 >>> ((nI k).toInt64.toUInt64 &&& Int64.toUInt64 63)).toInt64 = lN (n / 2 ^ k) := by
  rw [zlN_cu k hk]
  apply Int64.toBitVec_inj.1
  apply BitVec.eq_of_toNat_eq
  show (((lN n).toUInt64 >>> UInt64.ofNat k)).toNat = _
  rw [UInt64.toNat_shiftRight]
  show (BitVec.ofNat 64 n).toNat >>> _ = (BitVec.ofNat 64 (n / 2 ^ k)).toNat
  rw [BitVec.toNat_ofNat, BitVec.toNat_ofNat, Nat.mod_eq_of_lt hn, Nat.shiftRight_eq_div_pow]
  have : (UInt64.ofNat k).toNat = k := Nat.mod_eq_of_lt (by omega)
  rw [this, Nat.mod_eq_of_lt hk, Nat.mod_eq_of_lt (Nat.lt_of_le_of_lt (Nat.div_le_self _ _) hn)]
theorem zJ13_count (w : Int64) : fJ13_bitCount_95d88 w = some (nI (zcnt (zb w) 64)) := by
  have hX : w.toBitVec.toNat = zpoly 1 (fun j => (w.toBitVec.toNat.testBit j).toNat) 64 := zpoly_bits 64 _ w.toBitVec.isLt
  have hw : w = lN w.toBitVec.toNat := by
    apply Int64.toBitVec_inj.1; show _ = BitVec.ofNat 64 _; simp
  have hbit : ∀ j, zb w j = w.toBitVec.toNat.testBit j := fun j => rfl
  have key := zpop_eq (fun j => (w.toBitVec.toNat.testBit j).toNat) (fun i => Bool.toNat_le _) (fun i hi => by
    show (w.toBitVec.toNat.testBit i).toNat = 0
    rw [Nat.testBit_lt_two_pow (Nat.lt_of_lt_of_le w.toBitVec.isLt (Nat.pow_le_pow_right (by decide) hi))]; rfl)
  rw [← hX] at key
  have hcnt : zcnt (zb w) 64 = zsum (fun j => (w.toBitVec.toNat.testBit j).toNat) 64 := rfl
  rw [hcnt]
  generalize w.toBitVec.toNat = X at hw key ⊢
  generalize zsum (fun j => (X.testBit j).toNat) 64 = N at key ⊢
  subst hw
  obtain ⟨hle, h0, h1, h2, h3, h4, h5, h6⟩ := key
  have u : ∀ {n k : Nat} (d : Nat), 2 ^ k = d → n < 2 ^ 64 → k < 64 → ((lN n).toUInt64 >>> ((nI k).toInt64.toUInt64 &&& Int64.toUInt64 63)).toInt64 = lN (n / d) := fun d hd hn hk => by rw [zlN_ush hn hk, hd]
  have e1 : lN X - (((lN X).toUInt64 >>> ((1 : Int32).toInt64.toUInt64 &&& Int64.toUInt64 63)).toInt64 &&& (6148914691236517205 : Int64)) = lN (X - (X / 2 &&& 6148914691236517205)) := by
    rw [show (1 : Int32) = nI 1 from rfl, u 2 (by decide) h0 (by decide), show (6148914691236517205 : Int64) = lN 6148914691236517205 from rfl, zlN_and, lN_sub hle]
  unfold fJ13_bitCount_95d88
  rw [e1]
  generalize X - (X / 2 &&& 6148914691236517205) = Y at *
  have e2 : (lN Y &&& (3689348814741910323 : Int64)) + (((lN Y).toUInt64 >>> ((2 : Int32).toInt64.toUInt64 &&& Int64.toUInt64 63)).toInt64 &&& (3689348814741910323 : Int64)) = lN ((Y &&& 3689348814741910323) + (Y / 4 &&& 3689348814741910323)) := by
    rw [show (2 : Int32) = nI 2 from rfl, u 4 (by decide) h1 (by decide), show (3689348814741910323 : Int64) = lN 3689348814741910323 from rfl, zlN_and, zlN_and, lN_add]
  rw [e2]
  generalize (Y &&& 3689348814741910323) + (Y / 4 &&& 3689348814741910323) = Z at *
  have e3 : (lN Z + ((lN Z).toUInt64 >>> ((4 : Int32).toInt64.toUInt64 &&& Int64.toUInt64 63)).toInt64) &&& (1085102592571150095 : Int64) = lN ((Z + Z / 16) &&& 1085102592571150095) := by
    rw [show (4 : Int32) = nI 4 from rfl, u 16 (by decide) h2 (by decide), show (1085102592571150095 : Int64) = lN 1085102592571150095 from rfl, lN_add, zlN_and]
  rw [e3]
  generalize (Z + Z / 16) &&& 1085102592571150095 = V at *
  have e4 : lN V + ((lN V).toUInt64 >>> ((8 : Int32).toInt64.toUInt64 &&& Int64.toUInt64 63)).toInt64 = lN (V + V / 256) := by
    rw [show (8 : Int32) = nI 8 from rfl, u 256 (by decide) h3 (by decide), lN_add]
  rw [e4]
  generalize V + V / 256 = V2 at *
  have e5 : lN V2 + ((lN V2).toUInt64 >>> ((16 : Int32).toInt64.toUInt64 &&& Int64.toUInt64 63)).toInt64 = lN (V2 + V2 / 65536) := by
    rw [show (16 : Int32) = nI 16 from rfl, u 65536 (by decide) h4 (by decide), lN_add]
  rw [e5]
  generalize V2 + V2 / 65536 = V3 at *
  have e6 : lN V3 + ((lN V3).toUInt64 >>> ((32 : Int32).toInt64.toUInt64 &&& Int64.toUInt64 63)).toInt64 = lN (V3 + V3 / 4294967296) := by
    rw [show (32 : Int32) = nI 32 from rfl, u 4294967296 (by decide) h5 (by decide), lN_add]
  rw [e6, lN_i, show (127 : Int32) = nI 127 from rfl, zi_and, zn_and127, h6]
