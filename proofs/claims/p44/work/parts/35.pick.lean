/-! the values of an answer -/
def zdig (c r m : Nat) : Nat := r / 8 ^ (c - 1 - m) % 8
theorem zdiv8 (y : Nat) {a b : Nat} (h : b < a) : (y % 8 ^ a) / 8 ^ b % 8 = y / 8 ^ b % 8 := by
  have e : 8 ^ a = 8 ^ b * 8 ^ (a - b) := by rw [← Nat.pow_add]; congr 1; omega
  rw [e, Nat.mod_mul_right_div_self]
  have : 8 ∣ 8 ^ (a - b) := by
    have : a - b = (a - b - 1) + 1 := by omega
    rw [this, Nat.pow_succ]; exact Nat.dvd_mul_left _ _
  rw [Nat.mod_mod_of_dvd _ this]
theorem zext_at (pl : Nat → Nat) : ∀ m j d y i, i < m → y < 8 ^ m → (∀ a b, a < b → b < j + m → pl a ≠ pl b) → zext pl m j d y (pl (j + i)) = 8 + zdig m y i
  | 0, _, _, _, i, h, _, _ => by omega
  | m + 1, j, d, y, i, hi, hy, hd => by
    rw [zext]
    cases i with
    | zero =>
      show zext pl m (j + 1) _ _ (pl j) = _
      rw [zext_out pl m (j + 1) _ _ (fun i h1 h2 q => hd j i (by omega) (by omega) q.symm), zq_at, if_pos rfl]
      unfold zdig
      rw [show m + 1 - 1 - 0 = m by omega]
      have : y / 8 ^ m < 8 := by
        rw [Nat.div_lt_iff_lt_mul (Nat.pow_pos (by decide))]; rw [Nat.pow_succ] at hy; omega
      rw [Nat.mod_eq_of_lt this]
    | succ i =>
      have h1 := zext_at pl m (j + 1) (zup d (pl j) (8 + y / 8 ^ m)) (y % 8 ^ m) i (by omega) (Nat.mod_lt _ (Nat.pow_pos (by decide))) (fun a b h1 h2 => hd a b h1 (by omega))
      rw [show j + (i + 1) = j + 1 + i by omega, h1]
      unfold zdig
      rw [zdiv8 y (show m - 1 - i < m by omega), show m + 1 - 1 - (i + 1) = m - 1 - i by omega]
def zpk (pl : Nat → Nat) (c r : Nat) : Nat → Nat → Nat
  | 0 => z0
  | i + 1 => zup (zpk pl c r i) (pl (c - 1 - i)) (8 + r / 8 ^ i % 8)
theorem zpk_lt (pl : Nat → Nat) (c r : Nat) : ∀ i v, zpk pl c r i v < 16
  | 0, v => by show 0 < 16; decide
  | i + 1, v => by
    rw [zpk, zq_at]; split
    · omega
    · exact zpk_lt pl c r i v
theorem zpk_at {pl : Nat → Nat} {c r : Nat} (hd : ∀ a b, a < b → b < c → pl a ≠ pl b) : ∀ i m, c - i ≤ m → m < c → i ≤ c → zpk pl c r i (pl m) = 8 + zdig c r m
  | 0, m, h, h2, _ => by omega
  | i + 1, m, h, h2, h3 => by
    rw [zpk, zq_at]
    by_cases e : m = c - 1 - i
    · rw [if_pos (by rw [e])]
      unfold zdig
      rw [e, show c - 1 - (c - 1 - i) = i by omega]
    · rw [if_neg (fun q => hd (c - 1 - i) m (by omega) h2 q.symm)]
      exact zpk_at hd i m (by omega) h2 (by omega)
theorem zpk_no {pl : Nat → Nat} {c r v : Nat} (h : ∀ m, m < c → pl m ≠ v) : ∀ i, i ≤ c → zpk pl c r i v = 0
  | 0, _ => rfl
  | i + 1, hi => by
    rw [zpk, zq_at, if_neg (fun q => h (c - 1 - i) (by omega) q.symm)]
    exact zpk_no h i (by omega)
theorem zpk_ext {pl : Nat → Nat} {c r : Nat} (hd : ∀ a b, a < b → b < c → pl a ≠ pl b) (hr : r < 8 ^ c) (v : Nat) : zpk pl c r c v = zext pl c 0 z0 r v := by
  by_cases h : ∃ m, m < c ∧ pl m = v
  · obtain ⟨m, hm, e⟩ := h
    subst e
    rw [zpk_at hd c m (by omega) hm (Nat.le_refl c)]
    have := zext_at pl c 0 z0 r m hm hr (fun a b h1 h2 => hd a b h1 (by omega))
    rw [Nat.zero_add] at this; exact this.symm
  · have h' : ∀ m, m < c → pl m ≠ v := fun m hm q => h ⟨m, hm, q⟩
    rw [zpk_no h' c (Nat.le_refl c), zext_out pl c 0 z0 r (fun i _ hi => h' i (by omega))]; rfl
theorem zX0_pick (K : Nat) (hK : 4096 < K) {w : Nat → Int64} {seq : Nat → Int32} {pl : Nat → Nat} {c : Nat} (hc : c ≤ 4) (hseq : ∀ m, m < c → seq m = nI (pl m) ∧ pl m < 4) {p : Int32} {r : Nat} (hr : r < 4096) (haf : fX0_after K w p = some (nI r)) (pk : Int32) :
    fX0_pickAfter K seq (nI c) w p pk = some (nI r, nI (zch (zpk pl c r c))) := by
  unfold fX0_pickAfter
  rw [haf, Option.bind_some]
  have z00 : (0 : Int32) = nI (zch (zpk pl c r 0)) := by rw [show zpk pl c r 0 = fun _ => 0 from rfl, zch_0]; rfl
  have e0 : nI c - (1 : Int32) = if c = 0 then -1 else nI (c - 1) := by
    by_cases h : c = 0
    · rw [if_pos h, h]; decide
    · rw [if_neg h, show (1 : Int32) = nI 1 from rfl, zi_sub (by omega)]
  rw [e0, z00]
  suffices h : fX0_pickAfter_24 K seq (nI c) w p K (nI r) (nI (r / 8 ^ 0)) (if c - 0 = 0 then -1 else nI (c - 0 - 1)) (nI (zch (zpk pl c r 0))) = some (nI r, nI (zch (zpk pl c r c))) by
    rw [Nat.pow_zero, Nat.div_one] at h; exact h
  refine z_forE (F := fun q i (_ : Unit) => fX0_pickAfter_24 K seq (nI c) w p q (nI r) (nI (r / 8 ^ i)) (if c - i = 0 then -1 else nI (c - i - 1)) (nI (zch (zpk pl c r i)))) (n := c) (inv := fun _ _ => True) ?_ ?_ c K 0 () (by omega) trivial (by omega)
  · intro q i _ hi _
    left
    refine ⟨(), trivial, ?_⟩
    show fX0_pickAfter_24 K seq (nI c) w p (q + 1) (nI r) (nI (r / 8 ^ i)) (if c - i = 0 then -1 else nI (c - i - 1)) (nI (zch (zpk pl c r i))) = _
    have hrl : r / 8 ^ i < 4096 := Nat.lt_of_le_of_lt (Nat.div_le_self _ _) hr
    rw [if_neg (by omega), fX0_pickAfter_24, if_neg (nI_pos (by omega)), zX6_at seq (show c - i - 1 < 4 by omega) (by omega), Option.bind_some]
    obtain ⟨s1, s2⟩ := hseq (c - i - 1) (by omega)
    rw [s1, show (7 : Int32) = nI 7 from rfl, zi_and, zn_and7, zX1_withValue (fun v _ => zpk_lt pl c r i v) s2 (Nat.mod_lt _ (by decide)), Option.bind_some]
    have e1 : nI (r / 8 ^ i) >>> ((3 : Int32) &&& 31) = nI (r / 8 ^ (i + 1)) := by
      rw [show (3 : Int32) = nI 3 from rfl, show (31 : Int32) = nI 31 from rfl, zi_and, zn_and31, zi_shrP (by omega) (by decide), Nat.div_div_eq_div_mul, show (2 : Nat) ^ (3 % 32) = 8 from rfl, ← Nat.pow_succ]
    have e2 : nI (c - i - 1) + (-1 : Int32) = if c - (i + 1) = 0 then -1 else nI (c - (i + 1) - 1) := by
      by_cases h : c - (i + 1) = 0
      · rw [if_pos h, show c - i - 1 = 0 by omega]; decide
      · rw [if_neg h, show c - i - 1 = (c - (i + 1) - 1) + 1 by omega, zi_dec]
    rw [e1, e2, zpk, show c - 1 - i = c - i - 1 by omega]
  · intro q _ _
    show fX0_pickAfter_24 K seq (nI c) w p (q + 1) (nI r) (nI (r / 8 ^ c)) (if c - c = 0 then -1 else nI (c - c - 1)) (nI (zch (zpk pl c r c))) = _
    rw [if_pos (by omega), fX0_pickAfter_24, if_pos (by decide)]
/-- going through all answers: s is one more than the last key, i are behind -/
theorem zpick_step (K : Nat) (hK : 4096 < K) {w : Nat → Int64} {seq : Nat → Int32} {pl : Nat → Nat} {c : Nat} (hc : c ≤ 4) (hseq : ∀ m, m < c → seq m = nI (pl m) ∧ pl m < 4) {P : Nat → Bool} (hP : ∀ y, y < 4096 → zkb w y = P y) {s : Nat} (hs : s ≤ 4096) (hlt : zcnt P s < zcnt P 4096) (pk : Int32) :
    ∃ r, r < 4096 ∧ s ≤ r ∧ P r = true ∧ zcnt P (r + 1) = zcnt P s + 1 ∧ (∀ y, s ≤ y → y < r → P y = false) ∧ fX0_pickAfter K seq (nI c) w (if s = 0 then -1 else nI (s - 1)) pk = some (nI r, nI (zch (zpk pl c r c))) := by
  have hnk : ∀ k, k ≤ 4096 → znk (zkb w) k = znk P k := fun k hk => zlst_cong (fun y h1 h2 => hP y (by omega))
  have h1 := zcnt_lt_znk P hs hlt
  have h2 := (znk_b P hs).1
  have h3 := znk_yes P h1
  refine ⟨znk P s, h1, h2, h3, by rw [zcnt_s, zcnt_znk P hs, h3]; rfl, fun y g1 g2 => znk_no P g1 g2, ?_⟩
  apply zX0_pick K hK hc hseq h1
  by_cases h0 : s = 0
  · rw [if_pos h0, zX0_afterN K hK w, hnk 0 (by omega), h0]
    unfold zkr; rw [h0] at h1; rw [if_pos h1]
  · rw [if_neg h0, zX0_after K hK w (by omega), show s - 1 + 1 = s by omega, hnk s hs]
    unfold zkr; rw [if_pos h1]
theorem zX0_sizeWith (K : Nat) (hK : 4096 < K) {w : Nat → Int64} {seq : Nat → Int32} {pl : Nat → Nat} {c : Nat} (hc : c ≤ 4) (hseq : ∀ m, m < c → seq m = nI (pl m) ∧ pl m < 4) {P : Nat → Bool} (hP : ∀ y, y < 4096 → zkb w y = P y) {v x : Nat} (hv : v < 4) (hx : x < 8) (pk : Int32) :
    ∃ pk', fX0_sizeWith K seq (nI c) w (nI (zcnt P 4096)) (nI v) (nI x) pk = some (nI (zcnt (fun y => P y && decide (zpk pl c y c v % 8 = x)) 4096), pk') := by
  unfold fX0_sizeWith
  have hcl := zcnt_le P 4096
  obtain ⟨r, ⟨pk', hr⟩, e⟩ := z_for (F := fun q i (s : Nat × Int32) => fX0_sizeWith_8 K seq (nI c) w (nI (zcnt P 4096)) (nI v) (nI x) q (nI (zcnt (fun y => P y && decide (zpk pl c y c v % 8 = x)) s.1)) (if s.1 = 0 then -1 else nI (s.1 - 1)) (nI i) s.2) (n := zcnt P 4096) (inv := fun i s => s.1 ≤ 4096 ∧ zcnt P s.1 = i) (post := fun r => ∃ pk', r = (nI (zcnt (fun y => P y && decide (zpk pl c y c v % 8 = x)) 4096), pk'))
    (by
      intro q i s hi hinv
      obtain ⟨h1, h2⟩ := hinv
      left
      obtain ⟨r, r1, r2, r3, r4, r5, r6⟩ := zpick_step K hK hc hseq hP h1 (by omega) s.2
      refine ⟨(r + 1, nI (zch (zpk pl c r c))), ⟨by omega, by rw [← h2]; exact r4⟩, ?_⟩
      show fX0_sizeWith_8 K seq (nI c) w (nI (zcnt P 4096)) (nI v) (nI x) (q + 1) (nI (zcnt (fun y => P y && decide (zpk pl c y c v % 8 = x)) s.1)) (if s.1 = 0 then -1 else nI (s.1 - 1)) (nI i) s.2 = _
      have hcc : zcnt (fun y => P y && decide (zpk pl c y c v % 8 = x)) (r + 1) = zcnt (fun y => P y && decide (zpk pl c y c v % 8 = x)) s.1 + (decide (zpk pl c r c v % 8 = x)).toNat := by
        rw [zcnt_s, zcnt_flat r2 (fun y g1 g2 => by rw [r5 y g1 g2]; rfl), r3]; rfl
      rw [fX0_sizeWith_8, if_neg (by rw [zi_le (by omega) (by omega)]; omega), r6, Option.bind_some, zX1_valueOf (fun v _ => zpk_lt pl c r c v) hv, Option.bind_some]
      unfold fX0_sizeWith_43
      have e1 : (1 : Int32) = nI 1 := rfl
      have e0 : (0 : Int32) = nI 0 := rfl
      show _ = fX0_sizeWith_8 K seq (nI c) w (nI (zcnt P 4096)) (nI v) (nI x) q (nI (zcnt (fun y => P y && decide (zpk pl c y c v % 8 = x)) (r + 1))) (if r + 1 = 0 then -1 else nI (r + 1 - 1)) (nI (i + 1)) (nI (zch (zpk pl c r c)))
      rw [if_neg (by omega : ¬ r + 1 = 0), hcc, Nat.add_sub_cancel]
      by_cases g : zpk pl c r c v % 8 = x
      · rw [if_pos (by rw [g]), decide_eq_true g, e1, zi_add, zi_add]; rfl
      · rw [if_neg (by rw [zi_eq (by omega) (by omega)]; exact g), decide_eq_false g, e1, e0, zi_add, zi_add]; rfl)
    (by
      intro q s hinv
      obtain ⟨h1, h2⟩ := hinv
      refine ⟨_, ⟨s.2, rfl⟩, ?_⟩
      show fX0_sizeWith_8 K seq (nI c) w (nI (zcnt P 4096)) (nI v) (nI x) (q + 1) (nI (zcnt (fun y => P y && decide (zpk pl c y c v % 8 = x)) s.1)) (if s.1 = 0 then -1 else nI (s.1 - 1)) (nI (zcnt P 4096)) s.2 = _
      have hrest : ∀ y, s.1 ≤ y → y < 4096 → P y = false := by
        intro y g1 g2
        rw [← Bool.not_eq_true]
        intro g
        have m1 := zcnt_mono P g1
        have m2 := zcnt_mono P (show y + 1 ≤ 4096 by omega)
        rw [zcnt_s, g] at m2
        simp at m2
        omega
      rw [fX0_sizeWith_8, if_pos (by rw [zi_le (by omega) (by omega)]; omega), ← zcnt_flat h1 (fun y g1 g2 => by rw [hrest y g1 g2]; rfl)])
    (zcnt P 4096) K 0 (0, pk) (by omega) ⟨Nat.zero_le _, rfl⟩ (by omega)
  exact ⟨pk', by rw [hr] at e; exact e⟩
theorem zX0_keyOf {c a b e f : Nat} (hc : c ≤ 4) (ha : a < 8) (hb : b < 8) (he : e < 8) (hf : f < 8) : fX0_keyOf (nI c) (nI a) (nI b) (nI e) (nI f) = some (nI ((512 * a + 64 * b + 8 * e + f) / 8 ^ (4 - c))) := by
  have h1 : a * 512 ||| b * 64 = 512 * a + 64 * b := by
    have := zor_add (a := a) (b := b * 64) (k := 9) (by omega)
    simp only [Nat.reducePow] at this
    rw [Nat.mul_comm a, this]; omega
  have h2 : (512 * a + 64 * b) ||| e * 8 = 512 * a + 64 * b + 8 * e := by
    have := zor_add (a := 8 * a + b) (b := e * 8) (k := 6) (by omega)
    simp only [Nat.reducePow] at this
    rw [show 512 * a + 64 * b = 64 * (8 * a + b) by omega, this]; omega
  have h3 : (512 * a + 64 * b + 8 * e) ||| f = 512 * a + 64 * b + 8 * e + f := by
    have := zor_add (a := 64 * a + 8 * b + e) (b := f) (k := 3) (by omega)
    simp only [Nat.reducePow] at this
    rw [show 512 * a + 64 * b + 8 * e = 8 * (64 * a + 8 * b + e) by omega, this]
  have hs : 3 * (4 - c) % 32 = 3 * (4 - c) := by omega
  have h8 : 2 ^ (3 * (4 - c)) = 8 ^ (4 - c) := by rw [Nat.pow_mul]
  unfold fX0_keyOf
  simp (disch := omega) only [zi_lit, zi_and, zi_shlP, zi_or, zi_sub, zi_mul, zn_and31, Nat.reduceAnd, Nat.reducePow, h1, h2, h3, hs, zi_shrP, h8]
