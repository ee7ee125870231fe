/-! numbers: Int32 by its number, Int64 by its bits, loops, counts -/
theorem zi_lit (n : Nat) : (no_index (OfNat.ofNat n) : Int32) = nI (OfNat.ofNat n) := rfl
theorem zi_of (n : Nat) : Int32.ofNat n = nI n := rfl
theorem zi_and (a b : Nat) : nI a &&& nI b = nI (a &&& b) := by
  apply Int32.toBitVec_inj.1
  show BitVec.ofNat 32 a &&& BitVec.ofNat 32 b = BitVec.ofNat 32 (a &&& b)
  apply BitVec.eq_of_getLsbD_eq
  intro i hi
  simp [hi]
theorem zi_or (a b : Nat) : nI a ||| nI b = nI (a ||| b) := by
  apply Int32.toBitVec_inj.1
  show BitVec.ofNat 32 a ||| BitVec.ofNat 32 b = BitVec.ofNat 32 (a ||| b)
  apply BitVec.eq_of_getLsbD_eq
  intro i hi
  simp [hi]
theorem zi_s31 : ∀ k, k < 32 → (nI k &&& 31).toBitVec.smod 32 = BitVec.ofNat 32 k := by decide +kernel
theorem zi_shl (a : Nat) {k : Nat} (hk : k < 32) : nI a <<< (nI k &&& 31) = nI (a <<< k) := by
  apply Int32.toBitVec_inj.1
  have e : (nI a <<< (nI k &&& 31)).toBitVec = (nI a).toBitVec <<< ((nI k &&& 31).toBitVec.smod 32) := rfl
  rw [e, zi_s31 k hk]
  show BitVec.ofNat 32 a <<< BitVec.ofNat 32 k = BitVec.ofNat 32 (a <<< k)
  have hk2 : (BitVec.ofNat 32 k).toNat = k := by rw [BitVec.toNat_ofNat]; exact Nat.mod_eq_of_lt (by omega)
  apply BitVec.eq_of_toNat_eq
  rw [BitVec.shiftLeft_eq', hk2, BitVec.toNat_shiftLeft, BitVec.toNat_ofNat, BitVec.toNat_ofNat, Nat.shiftLeft_eq, Nat.shiftLeft_eq, Nat.mod_mul_mod]
theorem zi_shr {a k : Nat} (ha : a < 2147483648) (hk : k < 32) : nI a >>> (nI k &&& 31) = nI (a >>> k) := by
  rw [pk_shrN (by omega) (nI k &&& 31) k (by rw [zi_s31 k hk, BitVec.toNat_ofNat]; exact Nat.mod_eq_of_lt (by omega)), Nat.shiftRight_eq_div_pow]
theorem zi_le {a b : Nat} (ha : a < 2147483648) (hb : b < 2147483648) : nI a ≤ nI b ↔ a ≤ b := nI_leI ha hb
theorem zi_lt {a b : Nat} (ha : a < 2147483648) (hb : b < 2147483648) : nI a < nI b ↔ a < b := nI_ltI ha hb
theorem zi_eq {a b : Nat} (ha : a < 2147483648) (hb : b < 2147483648) : nI a = nI b ↔ a = b := nI_eq ha hb
theorem zi_clamp {n : Nat} (h : n < 2147483648) : (nI n).toNatClampNeg = n := nI_clamp h
theorem zi_toInt {n : Nat} (h : n < 2147483648) : (nI n).toInt = (n : Int) := nI_toInt h
theorem zi_inB {n N : Nat} (hn : n < 2147483648) : (inB (nI n) N = true) = (n < N) := by
  unfold inB
  have h0 : ¬ nI n < 0 := nI_pos hn
  simp [h0, zi_clamp hn]
theorem zi_m1 {n : Nat} (h : n < 2147483648) : nI n ≠ -1 := by
  intro e
  have h1 : (nI n).toInt = (-1 : Int32).toInt := by rw [e]
  rw [zi_toInt h] at h1
  have h2 : (-1 : Int32).toInt = -1 := by decide
  omega
theorem zi_lem1 {n : Nat} (h : n < 2147483648) : (nI n ≤ (-1 : Int32)) = False := by
  apply eq_false; rw [Int32.le_iff_toInt_le, zi_toInt h]; have h2 : (-1 : Int32).toInt = -1 := by decide
  omega
theorem zi_dec (n : Nat) : nI (n + 1) + (-1) = nI n := pk_m1 n
theorem zi_sub {a b : Nat} (h : b ≤ a) : nI a - nI b = nI (a - b) := pk_sub h
theorem zi_add (a b : Nat) : nI a + nI b = nI (a + b) := nI_add a b
theorem zi_mul (a b : Nat) : nI a * nI b = nI (a * b) := pk_mul a b
theorem zi_div {a d : Nat} (ha : a < 2147483648) (h0 : 0 < d) (hd : d < 2147483648) : nI a / nI d = nI (a / d) := pk_div ha h0 hd
theorem zi_rem {a d : Nat} (ha : a < 2147483648) (h0 : 0 < d) (hd : d < 2147483648) : nI a - nI a / nI d * nI d = nI (a % d) := pk_rem ha h0 hd
/-- arrays of numbers -/
theorem zu_same (f : Nat → Int32) (i : Nat) (x : Int32) : upd f i x i = x := by unfold upd; exact if_pos rfl
theorem zu_ne (f : Nat → Int32) {i j : Nat} (x : Int32) (h : j ≠ i) : upd f i x j = f j := by unfold upd; exact if_neg h
theorem zu_at (f : Nat → Int32) (i : Nat) (x : Int32) (j : Nat) : upd f i x j = if j = i then x else f j := rfl
theorem zl_at (f : Nat → Int64) (i : Nat) (x : Int64) (j : Nat) : vp_updL f i x j = if j = i then x else f j := rfl
theorem zq_at {α : Type} (f : Nat → α) (i : Nat) (x : α) (j : Nat) : zup f i x j = if j = i then x else f j := rfl
/-- a loop with fuel: it goes on from i to n, or ends ahead of it -/
theorem z_for {σ ρ : Type} {F : Nat → Nat → σ → Option ρ} {n : Nat} {inv : Nat → σ → Prop} {post : ρ → Prop}
    (step : ∀ k i s, i < n → inv i s → (∃ s', inv (i + 1) s' ∧ F (k + 1) i s = F k (i + 1) s') ∨ (∃ r, post r ∧ F (k + 1) i s = some r))
    (done : ∀ k s, inv n s → ∃ r, post r ∧ F (k + 1) n s = some r) :
    ∀ d K i s, i + d = n → inv i s → n < K + i → ∃ r, post r ∧ F K i s = some r := by
  intro d
  induction d with
  | zero =>
    intro K i s hi hv hK
    obtain ⟨k, rfl⟩ : ∃ k, K = k + 1 := ⟨K - 1, by omega⟩
    have : i = n := by omega
    subst this
    exact done k s hv
  | succ d ih =>
    intro K i s hi hv hK
    obtain ⟨k, rfl⟩ : ∃ k, K = k + 1 := ⟨K - 1, by omega⟩
    rcases step k i s (by omega) hv with ⟨s', hs, e⟩ | h
    · obtain ⟨r, hr, e2⟩ := ih k (i + 1) s' (by omega) hs (by omega)
      exact ⟨r, hr, e.trans e2⟩
    · exact h
/-- sums and counts -/
def zsum (f : Nat → Nat) : Nat → Nat
  | 0 => 0
  | n + 1 => zsum f n + f n
def zcnt (p : Nat → Bool) (n : Nat) : Nat := zsum (fun k => (p k).toNat) n
theorem zcnt_0 (p : Nat → Bool) : zcnt p 0 = 0 := rfl
theorem zcnt_s (p : Nat → Bool) (n : Nat) : zcnt p (n + 1) = zcnt p n + (p n).toNat := rfl
theorem zsum_cong {f g : Nat → Nat} : ∀ {n : Nat}, (∀ k, k < n → f k = g k) → zsum f n = zsum g n
  | 0, _ => rfl
  | n + 1, h => by
    show zsum f n + f n = zsum g n + g n
    rw [zsum_cong (fun k hk => h k (by omega)), h n (by omega)]
theorem zcnt_cong {p q : Nat → Bool} {n : Nat} (h : ∀ k, k < n → p k = q k) : zcnt p n = zcnt q n := zsum_cong (fun k hk => by rw [h k hk])
theorem zcnt_le (p : Nat → Bool) : ∀ n, zcnt p n ≤ n
  | 0 => Nat.le_refl 0
  | n + 1 => by
    have := zcnt_le p n
    have h2 : (p n).toNat ≤ 1 := Bool.toNat_le (p n)
    rw [zcnt_s]; omega
theorem zsum_split (f : Nat → Nat) (a : Nat) : ∀ b, zsum f (a + b) = zsum f a + zsum (fun k => f (a + k)) b
  | 0 => rfl
  | b + 1 => by
    show zsum f (a + b) + f (a + b) = zsum f a + (zsum (fun k => f (a + k)) b + f (a + b))
    rw [zsum_split f a b]; omega
theorem zsum_add (f g : Nat → Nat) : ∀ n, zsum (fun k => f k + g k) n = zsum f n + zsum g n
  | 0 => rfl
  | n + 1 => by
    show zsum (fun k => f k + g k) n + (f n + g n) = zsum f n + f n + (zsum g n + g n)
    rw [zsum_add f g n]; omega
theorem zsum_le {f g : Nat → Nat} : ∀ {n : Nat}, (∀ k, k < n → f k ≤ g k) → zsum f n ≤ zsum g n
  | 0, _ => Nat.le_refl 0
  | n + 1, h => by
    show zsum f n + f n ≤ zsum g n + g n
    have h1 := zsum_le (n := n) (fun k hk => h k (by omega))
    have h2 := h n (by omega)
    omega
theorem zsum_0 : ∀ n, zsum (fun _ => 0) n = 0
  | 0 => rfl
  | n + 1 => zsum_0 n
theorem zsum_swap (f : Nat → Nat → Nat) : ∀ n m, zsum (fun i => zsum (fun j => f i j) m) n = zsum (fun j => zsum (fun i => f i j) n) m
  | 0, m => (zsum_0 m).symm
  | n + 1, m => by
    show zsum (fun i => zsum (fun j => f i j) m) n + zsum (fun j => f n j) m = zsum (fun j => zsum (fun i => f i j) n + f n j) m
    rw [zsum_swap f n m, zsum_add]
theorem zsum_mul (f : Nat → Nat) (a : Nat) : ∀ b, zsum f (a * b) = zsum (fun i => zsum (fun j => f (a * i + j)) a) b
  | 0 => rfl
  | b + 1 => by
    show zsum f (a * (b + 1)) = zsum (fun i => zsum (fun j => f (a * i + j)) a) b + zsum (fun j => f (a * b + j)) a
    rw [Nat.mul_succ, zsum_split, zsum_mul f a b]
