/-! all choices, from the high digit or from the low one: the same sums -/
def zld (y m : Nat) : Nat := y / 8 ^ m % 8
theorem zdig_sum : ∀ (c : Nat) (f : (Nat → Nat) → Nat), (∀ δ δ' : Nat → Nat, (∀ m, m < c → δ m = δ' m) → f δ = f δ') → zsum (fun y => f (zdig c y)) (8 ^ c) = zsum (fun y => f (zld y)) (8 ^ c)
  | 0, f, hf => by
    show zsum _ 1 = zsum _ 1
    show 0 + f (zdig 0 0) = 0 + f (zld 0)
    rw [hf (zdig 0 0) (zld 0) (fun m hm => absurd hm (Nat.not_lt_zero _))]
  | c + 1, f, hf => by
    have hpow : 0 < 8 ^ c := Nat.pow_pos (by decide)
    have e1 : (8 : Nat) ^ (c + 1) = 8 ^ c * 8 := Nat.pow_succ 8 c
    have e2 : (8 : Nat) ^ (c + 1) = 8 * 8 ^ c := by rw [e1, Nat.mul_comm]
    have hA : zsum (fun y => f (zdig (c + 1) y)) (8 ^ (c + 1)) = zsum (fun d => zsum (fun y => f (fun m => if m = 0 then d else zdig c y (m - 1))) (8 ^ c)) 8 := by
      rw [e1, zsum_mul]
      apply zsum_cong
      intro d hd
      apply zsum_cong
      intro y hy
      apply hf
      intro m hm
      unfold zdig
      cases m with
      | zero =>
        rw [if_pos rfl, show c + 1 - 1 - 0 = c by omega, Nat.mul_add_div hpow, Nat.div_eq_of_lt hy, Nat.add_zero, Nat.mod_eq_of_lt hd]
      | succ m =>
        rw [if_neg (by omega), show c + 1 - 1 - (m + 1) = c - 1 - m by omega, Nat.add_sub_cancel, ← zdiv8 (8 ^ c * d + y) (show c - 1 - m < c by omega), Nat.mul_add_mod, Nat.mod_eq_of_lt hy]
    have hB : zsum (fun y => f (zld y)) (8 ^ (c + 1)) = zsum (fun d => zsum (fun y => f (fun m => if m = 0 then d else zld y (m - 1))) (8 ^ c)) 8 := by
      rw [e2, zsum_mul, zsum_swap]
      apply zsum_cong
      intro d hd
      apply zsum_cong
      intro y hy
      apply hf
      intro m hm
      unfold zld
      cases m with
      | zero =>
        rw [if_pos rfl, Nat.pow_zero, Nat.div_one]; omega
      | succ m =>
        rw [if_neg (by omega), Nat.add_sub_cancel, Nat.pow_succ, Nat.mul_comm (8 ^ m), ← Nat.div_div_eq_div_mul]
        congr 2; omega
    rw [hA, hB]
    apply zsum_cong
    intro d _
    apply zdig_sum c (fun δ => f (fun m => if m = 0 then d else δ (m - 1)))
    intro δ δ' h
    apply hf
    intro m hm
    by_cases g : m = 0
    · rw [if_pos g, if_pos g]
    · rw [if_neg g, if_neg g]; exact h (m - 1) (by omega)
theorem zdig_any (c : Nat) (p : (Nat → Nat) → Bool) (hp : ∀ δ δ' : Nat → Nat, (∀ m, m < c → δ m = δ' m) → p δ = p δ') : zany (fun y => p (zdig c y)) (8 ^ c) = zany (fun y => p (zld y)) (8 ^ c) := by
  have key := zdig_sum c (fun δ => (p δ).toNat) (fun δ δ' h => by rw [hp δ δ' h])
  have pos : ∀ (q : Nat → Bool) n, zany q n = true ↔ 0 < zsum (fun y => (q y).toNat) n := by
    intro q n
    induction n with
    | zero => simp [zany, zsum]
    | succ n ih =>
      rw [zany, Bool.or_eq_true, ih]
      show _ ↔ 0 < zsum (fun y => (q y).toNat) n + (q n).toNat
      cases q n <;> simp
  rw [Bool.eq_iff_iff, pos, pos, key]
/-! the variables of a rule, in the order 0, 1, 2, 3 -/
theorem zod_123 : ∀ j, j < 4 → zod 123 j = j := by decide
theorem zOr_123 : zOr 123 := by
  refine ⟨by decide, ?_, ?_⟩
  · decide
  · intro i j hij hj
    rw [zod_123 i (by omega), zod_123 j hj]; omega
def zrb (s : Nat → Nat) (r : Nat) : Nat := zbv s r false
def zrpl (s : Nat → Nat) (r : Nat) : Nat → Nat := zpl 123 (zrb s r) 4
def zrc (s : Nat → Nat) (r : Nat) : Nat := zpc 123 (zrb s r) 4
theorem zrc_le (s : Nat → Nat) (r : Nat) : zrc s r ≤ 4 := zpc_le _ _ 4
theorem zrD (s : Nat → Nat) (r : Nat) : ∀ a b, a < b → b < zrc s r → zrpl s r a ≠ zrpl s r b := fun a b h1 h2 => zpl_dist zOr_123 h1 h2
/-- a variable of the set has a place -/
theorem zrpl_to {s : Nat → Nat} {r v : Nat} (hv : v < 4) (hb : (zrb s r).testBit v = true) : ∃ m, m < zrc s r ∧ zrpl s r m = v := by
  have := zpl_to 123 (zrb s r) 4 v hv (by rw [zod_123 v hv]; exact hb)
  rw [zod_123 v hv] at this
  exact ⟨_, this.1, this.2⟩
theorem zX12_chooses (K : Nat) (hK : 4 < K) (s : Nat → Nat) (r : Nat) (hb16 : zrb s r < 16) {n : Nat} (hn : n < 100000) {value : Nat → Int32} (hval : ∃ val, zMv value val) :
    ∃ value' val', fX12_chooses K (nI (zrb s r)) (nI n) value = some (decide (n < 8 ^ zrc s r), value') ∧ zMv value' val' ∧ ∀ m, m < zrc s r → val' (zrpl s r m) = zld n m := by
  obtain ⟨val0, hv0⟩ := hval
  unfold fX12_chooses
  have e1 : (1 : Int32) = nI 1 := rfl
  obtain ⟨x, ⟨v', val', h1, h2, h3⟩, e⟩ := z_for (F := fun k j (z : Nat → Int32) => fX12_chooses_5 K (nI (zrb s r)) (nI n) k (nI (n / 8 ^ zpc 123 (zrb s r) j)) (nI j) z) (n := 4)
    (inv := fun j z => ∃ val', zMv z val' ∧ ∀ m, m < zpc 123 (zrb s r) j → val' (zpl 123 (zrb s r) j m) = zld n m ∧ zpl 123 (zrb s r) j m < j)
    (post := fun x => ∃ v' val', x = (decide (n < 8 ^ zrc s r), v') ∧ zMv v' val' ∧ ∀ m, m < zrc s r → val' (zrpl s r m) = zld n m)
    (by
      intro k j z hj hinv
      obtain ⟨val', q1, q2⟩ := hinv
      left
      have hod := zod_123 j hj
      have hdl : n / 8 ^ zpc 123 (zrb s r) j < 100000 := Nat.lt_of_le_of_lt (Nat.div_le_self _ _) hn
      have hs : j % 32 = j := by omega
      have ebit := zbit_iff (v := j) hb16
      have ecnd : (nI (zrb s r) >>> (nI j &&& (31 : Int32)) &&& (1 : Int32) = (1 : Int32)) ↔ (zrb s r).testBit j = true := by
        rw [show (31 : Int32) = nI 31 from rfl, e1, zi_and, zn_and31, hs, zi_shrP (by omega) (by omega), zi_and, zn_and1, zi_eq (by omega) (by omega)]
        rw [Nat.testBit_eq_decide_div_mod_eq]; simp
      by_cases hb : (zrb s r).testBit j = true
      · refine ⟨upd z j (nI (zld n (zpc 123 (zrb s r) j))), ⟨zup val' j (zld n (zpc 123 (zrb s r) j)), ?_, ?_⟩, ?_⟩
        · intro u hu
          rw [zu_at, zq_at]
          split
          · exact ⟨rfl, by unfold zld; omega⟩
          · exact q1 u hu
        · intro m hm
          rw [zpc, hod, hb] at hm
          simp only [Bool.toNat_true] at hm
          rw [zpl, hod, if_pos hb, zq_at, zq_at]
          by_cases g : m = zpc 123 (zrb s r) j
          · rw [if_pos g, if_pos rfl, g]; exact ⟨rfl, by omega⟩
          · obtain ⟨w1, w2⟩ := q2 m (by omega)
            rw [if_neg g, if_neg (by omega)]; exact ⟨w1, by omega⟩
        · rw [fX12_chooses_5, if_neg (by rw [show (4 : Int32) = nI 4 from rfl, zi_le (by omega) (by omega)]; omega), if_pos (ecnd.mpr hb), if_pos (by rw [zi_inB (by omega)]; exact hj)]
          unfold fX12_chooses_36
          rw [zi_clamp (by omega), show (7 : Int32) = nI 7 from rfl, zi_and, zn_and7, show (3 : Int32) = nI 3 from rfl, show (31 : Int32) = nI 31 from rfl, zi_and, zn_and31, zi_shrP (by omega) (by decide), e1, zi_add, zpc, hod, hb]
          have e8 : n / 8 ^ (zpc 123 (zrb s r) j + 1) = n / 8 ^ zpc 123 (zrb s r) j / 8 := by rw [Nat.pow_succ, Nat.div_div_eq_div_mul]
          show _ = fX12_chooses_5 K (nI (zrb s r)) (nI n) k (nI (n / 8 ^ (zpc 123 (zrb s r) j + 1))) _ _
          rw [e8]; rfl
      · refine ⟨z, ⟨val', q1, ?_⟩, ?_⟩
        · intro m hm
          rw [Bool.not_eq_true] at hb
          rw [zpc, hod, hb] at hm
          rw [zpl, hod, hb, if_neg (by decide)]
          obtain ⟨w1, w2⟩ := q2 m (by simpa using hm)
          exact ⟨w1, by omega⟩
        · rw [fX12_chooses_5, if_neg (by rw [show (4 : Int32) = nI 4 from rfl, zi_le (by omega) (by omega)]; omega), if_neg (fun q => hb (ecnd.mp q))]
          unfold fX12_chooses_36
          rw [Bool.not_eq_true] at hb
          rw [e1, zi_add, zpc, hod, hb]; rfl)
    (by
      intro k z hinv
      obtain ⟨val', q1, q2⟩ := hinv
      refine ⟨_, ⟨z, val', rfl, q1, fun m hm => (q2 m hm).1⟩, ?_⟩
      have hdl : n / 8 ^ zpc 123 (zrb s r) 4 < 100000 := Nat.lt_of_le_of_lt (Nat.div_le_self _ _) hn
      have hpow : 0 < 8 ^ zrc s r := Nat.pow_pos (by decide)
      rw [fX12_chooses_5, if_pos (by decide)]
      have hiff : n / 8 ^ zpc 123 (zrb s r) 4 = 0 ↔ n < 8 ^ zrc s r := by
        show n / 8 ^ zrc s r = 0 ↔ _
        rw [Nat.div_eq_zero_iff]; omega
      by_cases g : n < 8 ^ zrc s r
      · rw [if_pos (by rw [hiff.mpr g]; rfl), decide_eq_true g]
      · rw [if_neg (by rw [show (0 : Int32) = nI 0 from rfl, zi_eq (by omega) (by omega)]; exact fun q => g (hiff.mp q)), decide_eq_false g])
    4 K 0 value (by omega) ⟨val0, hv0, fun m hm => absurd hm (Nat.not_lt_zero _)⟩ (by omega)
  have e' : fX12_chooses_5 K (nI (zrb s r)) (nI n) K (nI (n / 8 ^ zpc 123 (zrb s r) 0)) (nI 0) value = some x := e
  rw [show zpc 123 (zrb s r) 0 = 0 from rfl, Nat.pow_zero, Nat.div_one, h1] at e'
  exact ⟨v', val', e', h2, h3⟩
/-- whether a choice of values gives a row -/
def zgv (R : Nat → Nat → Bool) (s : Nat → Nat) (r : Nat) (val : Nat → Nat) : Bool := zall (fun i => (R (zba s r i).1 (zaR (zba s r i) val)) != (zbN s r i)) (zbn s r)
theorem zX12_gives (K : Nat) (hK : 5 < K) {now : Nat → Int32} {s : Nat → Nat} (h : zM now s) (hs : zRul s) {row : Nat → Int32} {R : Nat → Nat → Bool} (hR : zMr row R) {r : Nat} (hr : r < zrn s) {value : Nat → Int32} {val : Nat → Nat} (hval : zMv value val) : fX12_gives K now row value (nI r) = some (zgv R s r val) := by
  have hrn := hs.1
  obtain ⟨a1, a2, a3⟩ := hs.2 r hr
  have e1 : (1 : Int32) = nI 1 := rfl
  unfold fX12_gives
  refine z_forE (F := fun k i (_ : Unit) => fX12_gives_2 K now row value (nI r) k (nI i)) (n := zbn s r) (inv := fun i _ => ∀ j, j < i → ((R (zba s r j).1 (zaR (zba s r j) val)) != (zbN s r j)) = true) ?_ ?_ (zbn s r) K 0 () (by omega) (fun j hj => absurd hj (Nat.not_lt_zero _)) (by omega)
  · intro k i _ hi hinv
    have hb := zbp_lt (show r < 5 by omega) (show i < 4 by omega)
    have hA := (a3 i hi).1
    rw [fX12_gives_2, zX12_ruleAtoms h (show r < 5 by omega), Option.bind_some, if_neg (by rw [zi_le (by omega) (by omega)]; omega), zX12_ruleAtomAt, Option.bind_some, zX12_fits K (by omega) h hR hval (by omega) hA, Option.bind_some, zX12_isNotAt h (by omega) (by omega), Option.bind_some]
    have hbb : (bI (R (s (zbp r i)) (zaR (zat s (zbp r i)) val)) = bI (zbN s r i)) = (R (zba s r i).1 (zaR (zba s r i) val) = zbN s r i) := by
      show (bI (R (zba s r i).1 (zaR (zba s r i) val)) = bI (zbN s r i)) = _
      cases R (zba s r i).1 (zaR (zba s r i) val) <;> cases zbN s r i <;> decide
    by_cases g : R (zba s r i).1 (zaR (zba s r i) val) = zbN s r i
    · right
      rw [if_pos (by rw [hbb]; exact g)]
      congr 1
      symm
      rw [← Bool.not_eq_true]
      unfold zgv
      rw [zall_iff]
      intro q
      have := q i hi
      rw [g] at this; simp at this
    · left
      refine ⟨(), ?_, ?_⟩
      · intro j hj
        rcases Nat.lt_or_ge j i with q | q
        · exact hinv j q
        · rw [show j = i by omega]; simpa using g
      · rw [if_neg (by rw [hbb]; exact g), e1, zi_add]
  · intro k _ hinv
    rw [fX12_gives_2, zX12_ruleAtoms h (show r < 5 by omega), Option.bind_some, if_pos (by rw [zi_le (by omega) (by omega)]; omega)]
    congr 1
    exact (zall_iff.mpr hinv).symm
