/-! the start of a search -/
theorem zIn_cnt {α : Type} (sub : Nat → List α × Nat) (T : Nat → Nat → Nat) (nx : Nat → Nat) (all B : Nat) (hT : ∀ u x, x ≤ 8 → x ≤ T u x ∧ T u x ≤ 8) (hB : ∀ r, (sub r).2 ≤ B) (ha : all ≤ 5) :
    ∀ k t x like, x ≤ 8 → like < all → (zIn sub T nx all k t x like).2 ≤ 6 * (8 - x) + (all - like) + (8 - x) * B := by
  intro k
  induction k with
  | zero => intro t x like _ _; show 0 ≤ _; omega
  | succ k ih =>
    intro t x like hx hl
    have hTl := hT (nx t) x hx
    rw [zIn]
    by_cases hr : T (nx t) x = 8
    · rw [if_pos hr]; show 1 ≤ _; omega
    · rw [if_neg hr]
      have hm : ∀ a b : Nat, a ≤ b → a * B ≤ b * B := fun a b h => Nat.mul_le_mul_right B h
      by_cases hc : (if x < T (nx t) x then 1 else like + 1) < all
      · rw [if_pos hc]
        show (zIn sub T nx all k (nx t) (T (nx t) x) _).2 + 1 ≤ _
        have h1 := ih (nx t) (T (nx t) x) _ (by omega) hc
        have h2 := hm (8 - T (nx t) x) (8 - x) (by omega)
        by_cases hq : x < T (nx t) x
        · rw [if_pos hq] at h1 hc ⊢; omega
        · rw [if_neg hq] at h1 hc ⊢; omega
      · rw [if_neg hc]
        show (sub (T (nx t) x)).2 + (zIn sub T nx all k (nx t) (T (nx t) x + 1) 0).2 + 1 ≤ _
        have h1 := ih (nx t) (T (nx t) x + 1) 0 (by omega) (by omega)
        have h2 := hB (T (nx t) x)
        have h3 := hm (8 - (T (nx t) x + 1) + 1) (8 - x) (by omega)
        rw [Nat.succ_mul] at h3
        omega
def zSb : Nat → Nat
  | 0 => 0
  | m + 1 => 53 + 8 * zSb m
theorem zS_cnt (R : Nat → Nat → Bool) (A : Nat → zA) (n : Nat) (hn : n ≤ 5) (pl : Nat → Nat) (c : Nat) (hpl : ∀ j, j < c → ∃ i, i < n ∧ zaH (A i) (pl j) = true) : ∀ m j d key, j + m = c → (zS R A n pl m j d key).2 ≤ zSb m
  | 0, _, _, _, _ => Nat.le_refl 0
  | m + 1, j, d, key, h => by
    have hcn := zcnt_le (fun i => zaH (A i) (pl j)) n
    obtain ⟨i0, hi0, hp0⟩ := hpl j (by omega)
    have hall1 : 1 ≤ zcnt (fun i => zaH (A i) (pl j)) n := by
      have h1 := zcnt_mono (fun i => zaH (A i) (pl j)) (show i0 + 1 ≤ n by omega)
      rw [zcnt_s, hp0] at h1
      simp at h1; omega
    have := zIn_cnt (fun r => zS R A n pl m (j + 1) (zup d (pl j) (8 + r)) (8 * key + r)) (fun u x => zT R A d (pl j) u x) (znx (fun i => zaH (A i) (pl j)) n n) (zcnt (fun i => zaH (A i) (pl j)) n) (zSb m) (fun u x hx => zT_le R A d (pl j) u hx) (fun r => zS_cnt R A n hn pl c hpl m (j + 1) _ _ (by omega)) (by omega) 60 (n - 1) 0 0 (by omega) (by omega)
    rw [zS, zSb]
    omega
theorem zSb_le : ∀ m, m ≤ 4 → zSb m ≤ 31005 := by decide
theorem zgen_len {α : Type} (p : Nat → Bool) (g : Nat → α) : ∀ n, (zgen p g n).length = zcnt p n
  | 0 => rfl
  | n + 1 => by
    rw [zgen, List.length_append, zgen_len p g n, zcnt_s]
    cases p n <;> rfl
/-- the digits of an order -/
def zOr (o : Nat) : Prop := o < 10000 ∧ (∀ j, j < 4 → zod o j < 4) ∧ ∀ i j, i < j → j < 4 → zod o i ≠ zod o j
theorem zX11_digitOf {o j : Nat} (ho : o < 10000) (hj : j < 4) : fX11_digitOf (nI o) (nI j) = some (nI (zod o j)) := by
  unfold fX11_digitOf
  rw [zi_toInt (show j < 2147483648 by omega)]
  have e10 : (10 : Int32) = nI 10 := rfl
  have e100 : (100 : Int32) = nI 100 := rfl
  have e1000 : (1000 : Int32) = nI 1000 := rfl
  have : j = 0 ∨ j = 1 ∨ j = 2 ∨ j = 3 := by omega
  rcases this with e | e | e | e <;> subst e
  · rw [if_neg (by omega), if_pos (by omega), e1000, e10, zi_div (by omega) (by omega) (by omega), zi_rem (by omega) (by omega) (by omega)]; rfl
  · rw [if_neg (by omega), if_neg (by omega), if_pos (by omega), e100, e10, zi_div (by omega) (by omega) (by omega), zi_rem (by omega) (by omega) (by omega)]; rfl
  · rw [if_neg (by omega), if_neg (by omega), if_neg (by omega), e10, zi_div (by omega) (by omega) (by omega), zi_rem (by omega) (by omega) (by omega)]; rfl
  · rw [if_pos (by omega), e10, zi_rem (by omega) (by omega) (by omega)]
    unfold zod; simp
/-- the atoms without not, in their order -/
def zfA (A : Nat → zA) (N : Nat → Bool) : Nat → Nat → zA
  | 0 => A
  | i + 1 => if N i = true then zfA A N i else zup (zfA A N i) (zcnt (fun q => !N q) i) (A i)
theorem zfA_of {A : Nat → zA} {N : Nat → Bool} : ∀ n k, k < zcnt (fun q => !N q) n → ∃ i, i < n ∧ N i = false ∧ zfA A N n k = A i
  | 0, k, h => by rw [zcnt_0] at h; omega
  | n + 1, k, h => by
    rw [zcnt_s] at h
    rw [zfA]
    cases hN : N n
    · rw [hN] at h
      simp only [Bool.not_false, Bool.toNat_true] at h
      rw [if_neg (by decide), zq_at]
      split
      · exact ⟨n, by omega, hN, rfl⟩
      · obtain ⟨i, h1, h2, h3⟩ := zfA_of (A := A) (N := N) n k (by omega)
        exact ⟨i, by omega, h2, h3⟩
    · rw [hN] at h
      simp only [Bool.not_true, Bool.toNat_false] at h
      rw [if_pos rfl]
      obtain ⟨i, h1, h2, h3⟩ := zfA_of (A := A) (N := N) n k (by omega)
      exact ⟨i, by omega, h2, h3⟩
theorem zfA_to {A : Nat → zA} {N : Nat → Bool} : ∀ n i, i < n → N i = false → ∃ k, k < zcnt (fun q => !N q) n ∧ zfA A N n k = A i
  | 0, i, h, _ => by omega
  | n + 1, i, h, hi => by
    have hs : zcnt (fun q => !N q) (n + 1) = zcnt (fun q => !N q) n + (!N n).toNat := zcnt_s _ _
    rw [hs]
    by_cases e : i = n
    · subst e
      rw [hi]
      refine ⟨zcnt (fun q => !N q) i, by simp, ?_⟩
      rw [zfA, hi, if_neg (by decide), zq_at, if_pos rfl]
    · obtain ⟨k, h1, h2⟩ := zfA_to n i (by omega) hi
      refine ⟨k, by omega, ?_⟩
      rw [zfA]
      split
      · exact h2
      · rw [zq_at, if_neg (by omega)]; exact h2
theorem zfA_all {A : Nat → zA} {N : Nat → Bool} : ∀ n, (∀ i, i < n → N i = false) → zcnt (fun q => !N q) n = n ∧ zfA A N n = A
  | 0, _ => ⟨rfl, rfl⟩
  | n + 1, h => by
    obtain ⟨h1, h2⟩ := zfA_all n (fun i hi => h i (by omega))
    rw [zcnt_s, zfA, h1, h2, h n (by omega)]
    refine ⟨rfl, ?_⟩
    rw [if_neg (by decide)]
    funext k; rw [zq_at]; split
    · rename_i e; rw [e]
    · rfl
theorem zLV_cong {A B : Nat → zA} {N M : Nat → Bool} {b : Bool} : ∀ {n : Nat}, (∀ i, i < n → A i = B i ∧ N i = M i) → zLV A N b n = zLV B M b n
  | 0, _ => rfl
  | n + 1, h => by rw [zLV, zLV, zLV_cong (fun i hi => h i (by omega)), (h n (by omega)).1, (h n (by omega)).2]
theorem zfA_V (A : Nat → zA) (N : Nat → Bool) : ∀ n, zLV (zfA A N n) (fun _ => false) false (zcnt (fun q => !N q) n) = zLV A N false n
  | 0 => rfl
  | n + 1 => by
    rw [zcnt_s]
    show _ = zLV A N false n ||| _
    rw [← zfA_V A N n]
    cases hN : N n
    · simp only [Bool.not_false, Bool.toNat_true, if_true]
      rw [zLV, if_pos rfl]
      congr 1
      · apply zLV_cong
        intro i hi
        refine ⟨?_, rfl⟩
        rw [zfA, hN, if_neg (by decide), zq_at, if_neg (by omega)]
      · rw [zfA, hN, if_neg (by decide), zq_at, if_pos rfl]
    · simp only [Bool.not_true, Bool.toNat_false, Nat.add_zero]
      rw [if_neg (by decide), Nat.or_zero]
      apply zLV_cong
      intro i hi
      refine ⟨?_, rfl⟩
      rw [zfA, hN, if_pos rfl]
theorem zpl_in (o bits : Nat) : ∀ j m, m < zpc o bits j → ∃ q, q < j ∧ zpl o bits j m = zod o q ∧ bits.testBit (zod o q) = true ∧ zpc o bits q = m
  | 0, m, h => by exact absurd h (Nat.not_lt_zero _)
  | j + 1, m, h => by
    rw [zpc] at h
    rw [zpl]
    by_cases hb : bits.testBit (zod o j) = true
    · rw [hb] at h
      simp only [Bool.toNat_true] at h
      rw [if_pos hb, zq_at]
      by_cases e : m = zpc o bits j
      · rw [if_pos e]; exact ⟨j, by omega, rfl, hb, e.symm⟩
      · rw [if_neg e]
        obtain ⟨q, h1, h2, h3, h4⟩ := zpl_in o bits j m (by omega)
        exact ⟨q, by omega, h2, h3, h4⟩
    · rw [if_neg hb]
      rw [Bool.not_eq_true] at hb
      rw [hb] at h
      obtain ⟨q, h1, h2, h3, h4⟩ := zpl_in o bits j m (by simpa using h)
      exact ⟨q, by omega, h2, h3, h4⟩
theorem zpc_mono (o bits : Nat) {a : Nat} : ∀ {b : Nat}, a ≤ b → zpc o bits a ≤ zpc o bits b
  | 0, h => by rw [Nat.le_zero.mp h]; exact Nat.le_refl _
  | b + 1, h => by
    rcases Nat.lt_or_ge a (b + 1) with h1 | h1
    · have := zpc_mono o bits (show a ≤ b by omega); rw [zpc]; omega
    · rw [show a = b + 1 by omega]; exact Nat.le_refl _
theorem zpl_to (o bits : Nat) : ∀ j q, q < j → bits.testBit (zod o q) = true → zpc o bits q < zpc o bits j ∧ zpl o bits j (zpc o bits q) = zod o q
  | 0, q, h, _ => by omega
  | j + 1, q, h, hb => by
    rw [zpc, zpl]
    by_cases e : q = j
    · subst e
      rw [if_pos hb, hb, zq_at, if_pos rfl]
      exact ⟨by simp, rfl⟩
    · obtain ⟨h1, h2⟩ := zpl_to o bits j q (by omega) hb
      refine ⟨by omega, ?_⟩
      split
      · rw [zq_at, if_neg (by omega)]; exact h2
      · exact h2
theorem zpl_dist {o bits : Nat} (ho : zOr o) {i j : Nat} (hij : i < j) (hj : j < zpc o bits 4) : zpl o bits 4 i ≠ zpl o bits 4 j := by
  obtain ⟨q1, a1, a2, a3, a4⟩ := zpl_in o bits 4 i (by omega)
  obtain ⟨q2, b1, b2, b3, b4⟩ := zpl_in o bits 4 j hj
  rw [a2, b2]
  rcases Nat.lt_trichotomy q1 q2 with h | h | h
  · exact ho.2.2 q1 q2 h b1
  · subst h; omega
  · exact (ho.2.2 q2 q1 h a1).symm
/-- each digit stands at some place -/
theorem zOr_onto {o : Nat} (ho : zOr o) {v : Nat} (hv : v < 4) : ∃ q, q < 4 ∧ zod o q = v := by
  obtain ⟨_, h1, h2⟩ := ho
  have a0 := h1 0 (by omega); have a1 := h1 1 (by omega); have a2 := h1 2 (by omega); have a3 := h1 3 (by omega)
  have b1 := h2 0 1 (by omega) (by omega); have b2 := h2 0 2 (by omega) (by omega); have b3 := h2 0 3 (by omega) (by omega)
  have b4 := h2 1 2 (by omega) (by omega); have b5 := h2 1 3 (by omega) (by omega); have b6 := h2 2 3 (by omega) (by omega)
  by_cases c0 : zod o 0 = v
  · exact ⟨0, by omega, c0⟩
  · by_cases c1 : zod o 1 = v
    · exact ⟨1, by omega, c1⟩
    · by_cases c2 : zod o 2 = v
      · exact ⟨2, by omega, c2⟩
      · exact ⟨3, by omega, by omega⟩
