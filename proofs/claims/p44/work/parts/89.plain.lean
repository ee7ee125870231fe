/-! answers counted plainly: all values tried, in the order of the variables -/
theorem zcnt_1 (z : Nat) : ∀ M, zcnt (fun k => decide (k = z)) M = if z < M then 1 else 0
  | 0 => rfl
  | M + 1 => by
    rw [zcnt_s, zcnt_1 z M]
    by_cases h : M = z
    · rw [decide_eq_true h, if_neg (by omega), if_pos (by omega)]; rfl
    · rw [decide_eq_false h]
      by_cases h2 : z < M
      · rw [if_pos h2, if_pos (by omega)]; rfl
      · rw [if_neg h2, if_neg (by omega)]; rfl
theorem zcnt_inj {p : Nat → Bool} {f : Nat → Nat} {M : Nat} : ∀ (N : Nat) (q : Nat → Bool), (∀ y, y < N → p y = true → f y < M ∧ q (f y) = true) → (∀ y z, y < z → z < N → f y ≠ f z) → zcnt p N ≤ zcnt q M
  | 0, _, _, _ => Nat.zero_le _
  | N + 1, q, h, hi => by
    rw [zcnt_s]
    cases e : p N
    · exact zcnt_inj N q (fun y hy => h y (by omega)) (fun y z h1 h2 => hi y z h1 (by omega))
    · obtain ⟨h1, h2⟩ := h N (by omega) e
      have h3 := zcnt_diff (p := q) (m := fun k => decide (k = f N)) M (fun k _ hk => by rw [of_decide_eq_true hk]; exact h2)
      rw [zcnt_1, if_pos h1] at h3
      have h4 := zcnt_inj N (fun k => q k && !decide (k = f N)) (fun y hy hp => by
        obtain ⟨a1, a2⟩ := h y (by omega) hp
        refine ⟨a1, ?_⟩
        rw [a2, decide_eq_false (hi y N hy (by omega))]; rfl) (fun y z h1 h2 => hi y z h1 (by omega))
      have e1 : (true).toNat = 1 := rfl
      omega
theorem zcnt_neg (p : Nat → Bool) : ∀ N, zcnt p N + zcnt (fun k => !p k) N = N
  | 0 => rfl
  | N + 1 => by
    have := zcnt_neg p N
    rw [zcnt_s, zcnt_s]
    cases p N
    · show zcnt p N + 0 + (zcnt (fun k => !p k) N + 1) = N + 1; omega
    · show zcnt p N + 1 + (zcnt (fun k => !p k) N + 0) = N + 1; omega
theorem zcnt_bij {p q : Nat → Bool} {f : Nat → Nat} {N : Nat} (h : ∀ y, y < N → f y < N ∧ q (f y) = p y) (hi : ∀ y z, y < z → z < N → f y ≠ f z) : zcnt p N = zcnt q N := by
  have a := zcnt_inj (p := p) (f := f) (M := N) N q (fun y hy hp => ⟨(h y hy).1, by rw [(h y hy).2]; exact hp⟩) hi
  have b := zcnt_inj (p := fun k => !p k) (f := f) (M := N) N (fun k => !q k) (fun y hy hp => ⟨(h y hy).1, by rw [(h y hy).2]; exact hp⟩) hi
  have c := zcnt_neg p N
  have d := zcnt_neg q N
  omega
/-- a number out of its digits to the base 8 -/
def zenc (g : Nat → Nat) : Nat → Nat
  | 0 => 0
  | c + 1 => zenc g c + g c * 8 ^ c
theorem zenc_lt {g : Nat → Nat} : ∀ c, (∀ i, i < c → g i < 8) → zenc g c < 8 ^ c
  | 0, _ => by show 0 < 1; omega
  | c + 1, h => by
    have h1 := zenc_lt c (fun i hi => h i (by omega))
    have h2 := h c (by omega)
    rw [zenc, Nat.pow_succ]
    have : g c * 8 ^ c ≤ 7 * 8 ^ c := Nat.mul_le_mul_right _ (by omega)
    omega
theorem zenc_dig {g : Nat → Nat} : ∀ c, (∀ i, i < c → g i < 8) → ∀ i, i < c → zenc g c / 8 ^ i % 8 = g i
  | 0, _ => fun i hi => by omega
  | c + 1, h => fun i hi => by
    have h1 := zenc_lt c (fun i hi => h i (by omega))
    have hp : 0 < 8 ^ c := Nat.pow_pos (by decide)
    rw [zenc]
    by_cases e : i = c
    · rw [e, Nat.add_mul_div_right _ _ hp, Nat.div_eq_of_lt h1, Nat.zero_add]
      exact Nat.mod_eq_of_lt (h c (by omega))
    · have h2 := zenc_dig c (fun i hi => h i (by omega)) i (by omega)
      have h3 := zdiv8 (zenc g c + g c * 8 ^ c) (a := c) (b := i) (by omega)
      rw [Nat.add_mul_mod_self_right, Nat.mod_eq_of_lt h1, h2] at h3
      exact h3.symm
theorem zdig_ext : ∀ c y z, y < 8 ^ c → z < 8 ^ c → (∀ i, i < c → y / 8 ^ i % 8 = z / 8 ^ i % 8) → y = z
  | 0, y, z, hy, hz, _ => by rw [Nat.pow_zero] at hy hz; omega
  | c + 1, y, z, hy, hz, h => by
    rw [Nat.pow_succ] at hy hz
    have h0 := h 0 (by omega)
    rw [Nat.pow_zero, Nat.div_one, Nat.div_one] at h0
    have h1 := zdig_ext c (y / 8) (z / 8) (by omega) (by omega) (fun i hi => by
      have := h (i + 1) (by omega)
      rw [Nat.pow_succ, Nat.mul_comm (8 ^ i) 8, ← Nat.div_div_eq_div_mul, ← Nat.div_div_eq_div_mul] at this
      exact this)
    omega
/-- the values spread over the variables of a set: the lowest variable has the lowest digit -/
def zspr (V y : Nat) (i v : Nat) : Nat := if v < i ∧ V.testBit v = true then 8 + y / 8 ^ zcnt (fun u => V.testBit u) v % 8 else 0
theorem zspr_lt (V y i v : Nat) : zspr V y i v < 16 := by unfold zspr; split <;> omega
theorem zX1_spread (K : Nat) (hK : 5 < K) {V y : Nat} (hV : V < 16) (hy : y < 2147483648) : fX1_spread K (nI y) (nI V) = some (nI (zch (zspr V y 4))) := by
  unfold fX1_spread
  have e4 : (4 : Int32) = nI 4 := rfl
  have h00 : (0 : Int32) = nI (zch (zspr V y 0)) := by
    have : zch (zspr V y 0) = zch (fun _ => 0) := zch_cong (fun v _ => by unfold zspr; rw [if_neg (by omega)])
    rw [this, zch_0]; rfl
  have hdiv : ∀ i, y / 8 ^ i < 2147483648 := fun i => Nat.lt_of_le_of_lt (Nat.div_le_self _ _) hy
  suffices h : fX1_spread_7 K (nI y) (nI V) K (nI (y / 8 ^ zcnt (fun u => V.testBit u) 0)) (nI (zch (zspr V y 0))) (nI 0) = some (nI (zch (zspr V y 4))) by
    rw [zcnt_0, Nat.pow_zero, Nat.div_one, ← h00] at h
    exact h
  refine z_forE (F := fun k i (_ : Unit) => fX1_spread_7 K (nI y) (nI V) k (nI (y / 8 ^ zcnt (fun u => V.testBit u) i)) (nI (zch (zspr V y i))) (nI i)) (n := 4) (inv := fun _ _ => True) ?_ ?_ 4 K 0 () (by omega) trivial (by omega)
  · intro k i _ hi _
    left
    refine ⟨(), trivial, ?_⟩
    show fX1_spread_7 K (nI y) (nI V) (k + 1) (nI (y / 8 ^ zcnt (fun u => V.testBit u) i)) (nI (zch (zspr V y i))) (nI i) = fX1_spread_7 K (nI y) (nI V) k (nI (y / 8 ^ zcnt (fun u => V.testBit u) (i + 1))) (nI (zch (zspr V y (i + 1)))) (nI (i + 1))
    have hz : (nI V &&& ((1 : Int32) <<< (nI i &&& 31)) = 0) = (V.testBit i = false) := zst16 ⟨V, hV⟩ ⟨i, hi⟩
    rw [fX1_spread_7, if_neg (show ¬ (4 : Int32) ≤ nI i by rw [e4, zi_le (by omega) (by omega)]; omega), zcnt_s, nI_succ i]
    unfold fX1_spread_37
    cases e : V.testBit i
    · rw [if_pos (hz.mpr e)]
      have : zch (zspr V y (i + 1)) = zch (zspr V y i) := zch_cong (fun v _ => by
        unfold zspr
        by_cases g : v = i
        · rw [g, e, if_neg (show ¬ (i < i + 1 ∧ false = true) by simp), if_neg (show ¬ (i < i ∧ false = true) by simp)]
        · by_cases g2 : v < i ∧ V.testBit v = true
          · rw [if_pos g2, if_pos ⟨by omega, g2.2⟩]
          · rw [if_neg g2, if_neg (fun g3 => g2 ⟨by omega, g3.2⟩)])
      rw [this]; rfl
    · rw [if_neg (fun g => by rw [hz, e] at g; cases g)]
      have h7 : nI (y / 8 ^ zcnt (fun u => V.testBit u) i) &&& (7 : Int32) = nI (y / 8 ^ zcnt (fun u => V.testBit u) i % 8) := by
        rw [show (7 : Int32) = nI 7 from rfl, zi_and, zn_and7]
      have h3 : nI (y / 8 ^ zcnt (fun u => V.testBit u) i) >>> ((3 : Int32) &&& 31) = nI (y / 8 ^ (zcnt (fun u => V.testBit u) i + 1)) := by
        have e8 : ∀ a, y / 8 ^ a / 2 ^ 3 = y / 8 ^ (a + 1) := fun a => by
          show y / 8 ^ a / 8 = _
          rw [Nat.pow_succ, ← Nat.div_div_eq_div_mul]
        rw [show (3 : Int32) = nI 3 from rfl, zi_shr (hdiv _) (by omega), Nat.shiftRight_eq_div_pow, e8]
      have hd : zch (zup (zspr V y i) i (8 + y / 8 ^ zcnt (fun u => V.testBit u) i % 8)) = zch (zspr V y (i + 1)) := zch_cong (fun v _ => by
        rw [zq_at]
        unfold zspr
        by_cases g : v = i
        · rw [if_pos g, g, if_pos ⟨by omega, e⟩]
        · rw [if_neg g]
          by_cases g2 : v < i ∧ V.testBit v = true
          · rw [if_pos g2, if_pos ⟨by omega, g2.2⟩]
          · rw [if_neg g2, if_neg (fun g3 => g2 ⟨by omega, g3.2⟩)])
      rw [h7, zX1_withValue (fun v _ => zspr_lt V y i v) hi (by omega), Option.bind_some, h3, hd]
      rfl
  · intro k _ _
    show fX1_spread_7 K (nI y) (nI V) (k + 1) (nI (y / 8 ^ zcnt (fun u => V.testBit u) 4)) (nI (zch (zspr V y 4))) (nI 4) = _
    rw [fX1_spread_7, if_pos (show (4 : Int32) ≤ nI 4 by decide)]
theorem zX11_allFit (K : Nat) (hK : 5 < K) {c : Nat → Int32} {n : Nat} {A : Nat → zA} (hL : zL c n A (fun _ => false)) (w : Nat → Int64) {d : Nat → Nat} (hd : ∀ v, v < 4 → d v < 16) : fX11_allFit K w c (nI n) (nI (zch d)) = some (zfa (zw w) A n d) := by
  unfold fX11_allFit
  have hn := hL.1
  refine z_forE (F := fun k i (_ : Unit) => fX11_allFit_2 K w c (nI n) (nI (zch d)) k (nI i)) (n := n) (inv := fun i _ => zall (fun i => zw w (A i).1 (zaR (A i) (fun v => d v % 8))) i = true) ?_ ?_ n K 0 () (by omega) rfl (by omega)
  · intro k i _ hi hinv
    have ha := (hL.2 i hi).1
    have hrl := zaR_lt (fun v => d v % 8) (fun v _ => Nat.mod_lt _ (by decide)) ha
    show _ ∨ fX11_allFit_2 K w c (nI n) (nI (zch d)) (k + 1) (nI i) = _
    rw [fX11_allFit_2, if_neg (by rw [zi_le (by omega) (by omega)]; omega), zX2_at hL hi, Option.bind_some, zX1_table ha, Option.bind_some, zX1_row K (by omega) ha false hd, Option.bind_some, zX7_has w ha.1 hrl, Option.bind_some]
    cases e : zw w (A i).1 (zaR (A i) (fun v => d v % 8))
    · right
      rw [if_pos (show bI false = 0 from rfl)]
      have : zfa (zw w) A n d = false := by
        cases e2 : zfa (zw w) A n d
        · rfl
        · have := zall_iff.1 e2 i hi
          rw [e] at this; cases this
      rw [this]
    · left
      refine ⟨(), ?_, ?_⟩
      · rw [zall_iff] at hinv ⊢
        intro j hj
        by_cases g : j = i
        · rw [g]; exact e
        · exact hinv j (by omega)
      · rw [if_neg (show ¬ bI true = 0 by decide), ← nI_succ]
  · intro k _ hinv
    show fX11_allFit_2 K w c (nI n) (nI (zch d)) (k + 1) (nI n) = _
    rw [fX11_allFit_2, if_pos (by rw [zi_le (by omega) (by omega)]; omega)]
    unfold zfa
    rw [hinv]
/-- as many places as variables -/
theorem zpc_cnt {o V : Nat} (ho : zOr o) (hV : V < 16) : zpc o V 4 = zcnt (fun u => V.testBit u) 4 := by
  obtain ⟨_, h1, h2⟩ := ho
  have a0 := h1 0 (by omega)
  have a1 := h1 1 (by omega)
  have a2 := h1 2 (by omega)
  have a3 := h1 3 (by omega)
  have b1 := h2 0 1 (by omega) (by omega)
  have b2 := h2 0 2 (by omega) (by omega)
  have b3 := h2 0 3 (by omega) (by omega)
  have b4 := h2 1 2 (by omega) (by omega)
  have b5 := h2 1 3 (by omega) (by omega)
  have b6 := h2 2 3 (by omega) (by omega)
  show 0 + (V.testBit (zod o 0)).toNat + (V.testBit (zod o 1)).toNat + (V.testBit (zod o 2)).toNat + (V.testBit (zod o 3)).toNat = _
  generalize zod o 0 = a at *
  generalize zod o 1 = b at *
  generalize zod o 2 = c at *
  generalize zod o 3 = d at *
  have key : ∀ V : Fin 16, ∀ a b c d : Fin 4, (a == b || a == c || a == d || b == c || b == d || c == d || decide (0 + (V.val.testBit a.val).toNat + (V.val.testBit b.val).toNat + (V.val.testBit c.val).toNat + (V.val.testBit d.val).toNat = zcnt (fun u => V.val.testBit u) 4)) = true := by decide +kernel
  have h := key ⟨V, hV⟩ ⟨a, a0⟩ ⟨b, a1⟩ ⟨c, a2⟩ ⟨d, a3⟩
  simp only [Bool.or_eq_true, beq_iff_eq, decide_eq_true_eq, Fin.mk.injEq] at h
  rcases h with (((((h | h) | h) | h) | h) | h) | h
  · exact absurd h b1
  · exact absurd h b2
  · exact absurd h b3
  · exact absurd h b4
  · exact absurd h b5
  · exact absurd h b6
  · exact h
theorem zcnt_nth {p : Nat → Bool} : ∀ N i, i < zcnt p N → ∃ v, v < N ∧ p v = true ∧ zcnt p v = i
  | 0, i, h => by rw [zcnt_0] at h; omega
  | N + 1, i, h => by
    by_cases g : i < zcnt p N
    · obtain ⟨v, h1, h2, h3⟩ := zcnt_nth N i g
      exact ⟨v, by omega, h2, h3⟩
    · rw [zcnt_s] at h
      cases e : p N
      · rw [e] at h; have : (false).toNat = 0 := rfl; omega
      · rw [e] at h; have : (true).toNat = 1 := rfl
        exact ⟨N, by omega, e, by omega⟩
