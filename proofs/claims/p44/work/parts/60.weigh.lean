/-! the class weighs a cover -/
def zcn (A : Nat → zA) (n i j v : Nat) : Nat := zcs A n v i + (if zaH (A i) v = true then j else 0)
theorem zkv_eq {A : Nat → zA} {m n t : Nat} (hA : ∀ i, i < m → zaOK (A i)) (ht : t < 16) (h : ∀ v, v < 4 → t.testBit v = decide (2 ≤ zcs A n v m)) : (t = zLV A (fun _ => false) false m) ↔ zkv A m n = true := by
  have hl : zLV A (fun _ => false) false m < 16 := zLV_lt hA
  have hb : ∀ v, v < 4 → (zLV A (fun _ => false) false m).testBit v = zany (fun i => zaH (A i) v) m := by
    intro v hv
    rw [zLV_bit hv hA]
    apply zany_cong
    intro i _
    rw [decide_eq_true rfl, Bool.true_and]
  have hz : ∀ v, zany (fun i => zaH (A i) v) m = false → zcs A n v m = 0 := by
    intro v g
    unfold zcs
    refine (zsum_cong (g := fun _ => 0) ?_).trans (zsum_0 _)
    intro i hi
    rw [if_neg]
    intro q
    have := (zany_iff (p := fun i => zaH (A i) v)).mpr ⟨i, hi, q⟩
    rw [g] at this; exact absurd this (by decide)
  unfold zkv
  rw [zall_iff]
  constructor
  · intro e v hv
    have h1 := h v hv
    rw [e, hb v hv] at h1
    rw [h1]
    cases decide (2 ≤ zcs A n v m) <;> rfl
  · intro g
    apply z16_ext ht hl
    intro v hv
    rw [h v hv, hb v hv]
    have := g v hv
    cases e : zany (fun i => zaH (A i) v) m
    · rw [hz v e]; rfl
    · rw [e] at this
      simpa using this
theorem zX3_w56 (K : Nat) {sizes : Nat → Int32} {sz : Nat → Nat} (codes : Nat → Int32) {m : Nat} (hm : m ≤ 5) (hs : ∀ i, i < m → sizes i = nI (sz i) ∧ sz i ≤ 512) (p2 : Int32) (r17 : Int32 → Int32 → Int64 → Int32 → Int32 → Int32 → Int32 → Int64 → Option (Int32 × Int64)) {A : Nat → zA} (hA : ∀ i, i < m → zaOK (A i)) {n i : Nat} (hi : i < m) (x3 x4 : Int32) {o t : Nat} (ho : zot o t (zcn A n i 0)) {p : Nat} (hp : p ≤ zMAX) (lh : Int32) (lp : Int64) (hK : 5 < K) :
    ∃ o' t', fX3_weigh_56 K sizes codes (nI m) p2 r17 K x3 x4 (lN p) (nI o) (nI t) (nI i) (nI (zaS (A i))) (nI (zh n i)) (nI 0) lh lp = r17 x3 x4 (lN (zit (sz i) p (zh n i))) (nI o') (nI t') (nI (i + 1)) lh lp ∧ zot o' t' (zcn A n (i + 1) 0) := by
  have hh := zh_lt n i
  have e1 : (1 : Int32) = nI 1 := rfl
  obtain ⟨⟨o', t'⟩, h1, e⟩ := z_forD (F := fun k j (z : Nat × Nat) => fX3_weigh_56 K sizes codes (nI m) p2 r17 k x3 x4 (lN (zit (sz i) p j)) (nI z.1) (nI z.2) (nI i) (nI (zaS (A i))) (nI (zh n i)) (nI j) lh lp) (n := zh n i)
    (inv := fun j z => zot z.1 z.2 (zcn A n i j)) (D := fun z => r17 x3 x4 (lN (zit (sz i) p (zh n i))) (nI z.1) (nI z.2) (nI (i + 1)) lh lp)
    (by
      intro k j z hj hz
      refine ⟨(z.1 ||| zaS (A i), z.2 ||| (z.1 &&& zaS (A i))), ?_, ?_⟩
      · have := zot_step hz (hA i hi)
        have e : (fun v => zcn A n i j v + if zaH (A i) v = true then 1 else 0) = zcn A n i (j + 1) := by
          funext v
          unfold zcn
          split <;> omega
        rw [e] at this
        exact this
      · obtain ⟨s1, s2⟩ := hs i hi
        show fX3_weigh_56 K sizes codes (nI m) p2 r17 (k + 1) x3 x4 (lN (zit (sz i) p j)) (nI z.1) (nI z.2) (nI i) (nI (zaS (A i))) (nI (zh n i)) (nI j) lh lp = fX3_weigh_56 K sizes codes (nI m) p2 r17 k x3 x4 (lN (zsat (zit (sz i) p j) (sz i))) (nI (z.1 ||| zaS (A i))) (nI (z.2 ||| (z.1 &&& zaS (A i)))) (nI i) (nI (zaS (A i))) (nI (zh n i)) (nI (j + 1)) lh lp
        rw [fX3_weigh_56, if_neg (by rw [zi_le (by omega) (by omega)]; omega), zX6_at sizes (show i < 5 by omega) (by omega), Option.bind_some, s1, zX3_times (zit_le hp j) (by omega), Option.bind_some, zi_or, zi_and, zi_or, e1, zi_add])
    (by
      intro k z hz
      show fX3_weigh_56 K sizes codes (nI m) p2 r17 (k + 1) x3 x4 (lN (zit (sz i) p (zh n i))) (nI z.1) (nI z.2) (nI i) (nI (zaS (A i))) (nI (zh n i)) (nI (zh n i)) lh lp = _
      rw [fX3_weigh_56, if_pos (by rw [zi_le (by omega) (by omega)]; omega), e1, zi_add])
    (zh n i) K 0 (o, t) (by omega) ho (by omega)
  refine ⟨o', t', e, ?_⟩
  have e : zcn A n (i + 1) 0 = zcn A n i (zh n i) := by
    funext v
    unfold zcn
    show (zcs A n v i + if zaH (A i) v = true then zh n i else 0) + _ = _
    have : (if zaH (A (i + 1)) v = true then 0 else 0) = 0 := by split <;> rfl
    rw [this]
    rfl
  rw [e]; exact h1
theorem zX3_weigh (K : Nat) {sizes : Nat → Int32} {sz : Nat → Nat} {codes : Nat → Int32} {A : Nat → zA} {m : Nat} (hL : zL codes m A (fun _ => false)) (hs : ∀ i, i < m → sizes i = nI (sz i) ∧ sz i ≤ 512) {n : Nat} (hn : n < 3 ^ m) (hK : 5 < K) :
    fX3_weigh K sizes codes (nI m) (nI n) (nI (zlH A m n)) (lN (zlP A sz m n)) = some (nI (zlH A m (n + 1)), lN (zlP A sz m (n + 1))) := by
  have hm := hL.1
  have hA : ∀ i, i < m → zaOK (A i) := fun i hi => (hL.2 i hi).1
  have hn243 : n < 243 := Nat.lt_of_lt_of_le hn (by
    rw [show (243 : Nat) = 3 ^ 5 from rfl]; exact Nat.pow_le_pow_right (by decide) hm)
  have e1 : (1 : Int32) = nI 1 := rfl
  have e3 : (3 : Int32) = nI 3 := rfl
  unfold fX3_weigh
  obtain ⟨x, hx, e⟩ := z_for (F := fun k i (z : Nat × Nat) => fX3_weigh_17 K sizes codes (nI m) (nI n) k (nI (n / 3 ^ i)) (nI (zhs n i)) (lN (zpr sz n i)) (nI z.1) (nI z.2) (nI i) (nI (zlH A m n)) (lN (zlP A sz m n))) (n := m)
    (inv := fun i z => zot z.1 z.2 (zcn A n i 0)) (post := fun x => x = (nI (zlH A m (n + 1)), lN (zlP A sz m (n + 1))))
    (by
      intro k i z hi hz
      left
      have hq : n / 3 ^ i < 243 := Nat.lt_of_le_of_lt (Nat.div_le_self _ _) hn243
      obtain ⟨o', t', e, h⟩ := zX3_w56 K codes hm hs (nI n) (fX3_weigh_17 K sizes codes (nI m) (nI n) k) hA hi (nI (n / 3 ^ (i + 1))) (nI (zhs n (i + 1))) hz (zpr_le sz n i) (nI (zlH A m n)) (lN (zlP A sz m n)) hK
      refine ⟨(o', t'), h, ?_⟩
      show fX3_weigh_17 K sizes codes (nI m) (nI n) (k + 1) (nI (n / 3 ^ i)) (nI (zhs n i)) (lN (zpr sz n i)) (nI z.1) (nI z.2) (nI i) (nI (zlH A m n)) (lN (zlP A sz m n)) = _
      have hd : n / 3 ^ i / 3 = n / 3 ^ (i + 1) := by rw [Nat.pow_succ, Nat.div_div_eq_div_mul]
      rw [fX3_weigh_17, if_neg (by rw [zi_le (by omega) (by omega)]; omega), zX2_at hL hi, Option.bind_some, zX1_variables (hA i hi) false, Option.bind_some, e3, zi_rem (by omega) (by omega) (by omega), zi_div (by omega) (by omega) (by omega), hd, zi_add]
      exact e)
    (by
      intro k z hz
      refine ⟨_, rfl, ?_⟩
      obtain ⟨z1, z2, z3⟩ := hz
      have hM := zMAX_lt
      have h1 := zhs_le n m
      have h2 := zlH_le A m n
      have h3 := zpr_le sz n m
      have h4 := zlP_le A sz m n
      have hv := zkv_eq (A := A) (m := m) (n := n) hA z2 (fun v hv => by
        rw [(z3 v hv).2]
        unfold zcn
        have : (if zaH (A m) v = true then 0 else 0) = 0 := by split <;> rfl
        rw [this, Nat.add_zero])
      have hl : zLV A (fun _ => false) false m < 16 := zLV_lt hA
      show fX3_weigh_17 K sizes codes (nI m) (nI n) (k + 1) (nI (n / 3 ^ m)) (nI (zhs n m)) (lN (zpr sz n m)) (nI z.1) (nI z.2) (nI m) (nI (zlH A m n)) (lN (zlP A sz m n)) = _
      rw [fX3_weigh_17, if_pos (by rw [zi_le (by omega) (by omega)]; omega), show (0 : Int32) = bI false from rfl, zX2_variables K hK hL false, Option.bind_some, zlH, zlP]
      by_cases g : zkv A m n = true
      · rw [if_pos (by rw [hv.mpr g])]
        congr 2
        · by_cases q : zhs n m < zlH A m n
          · rw [if_pos ((zi_lt (by omega) (by omega)).mpr q), if_pos ⟨g, q⟩]
          · rw [if_neg (fun w => q ((zi_lt (by omega) (by omega)).mp w)), if_neg (fun w => q w.2)]
        · by_cases q : zpr sz n m < zlP A sz m n
          · rw [if_pos ((pk_lLT (by omega) (by omega)).mpr q), if_pos ⟨g, q⟩]
          · rw [if_neg (fun w => q ((pk_lLT (by omega) (by omega)).mp w)), if_neg (fun w => q w.2)]
      · rw [if_neg (by rw [zi_eq (by omega) (by omega)]; exact fun q => g (hv.mp q)), if_neg (fun w => g w.1), if_neg (fun w => g w.1)])
    m K 0 (0, 0) (by omega) (by
      refine ⟨by decide, by decide, ?_⟩
      intro v _
      have : zcn A n 0 0 v = 0 := by
        unfold zcn
        show 0 + (if zaH (A 0) v = true then 0 else 0) = 0
        split <;> rfl
      rw [this, Nat.zero_testBit]
      exact ⟨rfl, rfl⟩) (by omega)
  rw [hx] at e
  have e0 : n / 3 ^ 0 = n := by rw [Nat.pow_zero, Nat.div_one]
  rw [e0] at e
  exact e
def zsz (R : Nat → Nat → Bool) (a : zA) : Nat := zcnt (fun k => R a.1 k && zaG a k) 512
theorem zX3_sizeOf (K : Nat) (hK : 512 < K) {a : zA} (ha : zaOK a) (n : Bool) {w : Nat → Int64} {R : Nat → Nat → Bool} (hw : zeqR (zw w) R) (hz : ∀ k, k < 512 → R a.1 k = true → zin a.2.1 k) : fX3_sizeOf K (nI (zaC a n)) w = some (nI (zsz R a)) := by
  unfold fX3_sizeOf
  refine z_forE (F := fun k i (_ : Unit) => fX3_sizeOf_4 K (nI (zaC a n)) w k (nI (zcnt (fun k => R a.1 k && zaG a k) i)) (nI i)) (n := 512) (inv := fun _ _ => True) ?_ ?_ 512 K 0 () (by omega) trivial (by omega)
  · intro k i _ hi _
    left
    refine ⟨(), trivial, ?_⟩
    show fX3_sizeOf_4 K (nI (zaC a n)) w (k + 1) (nI (zcnt (fun k => R a.1 k && zaG a k) i)) (nI i) = fX3_sizeOf_4 K (nI (zaC a n)) w k (nI (zcnt (fun k => R a.1 k && zaG a k) i + (R a.1 i && zaG a i).toNat)) (nI (i + 1))
    rw [fX3_sizeOf_4, if_neg (by rw [show (512 : Int32) = nI 512 from rfl, zi_le (by omega) (by omega)]; omega), zX1_table ha, Option.bind_some, zX7_has w ha.1 hi, Option.bind_some, hw _ _ ha.1 hi]
    unfold fX3_sizeOf_36 fX3_sizeOf_37
    rw [show (1 : Int32) = nI 1 from rfl, show (0 : Int32) = nI 0 from rfl, zi_add, zi_add, zi_add]
    cases hr : R a.1 i
    · rw [if_pos (show bI false = nI 0 from rfl)]; rfl
    · rw [if_neg (show ¬ bI true = nI 0 by decide), zX1_agrees K (by omega) ha n hi, Option.bind_some, zaG_eq ha hi (hz i hi hr)]
      cases zaG a i
      · rw [if_pos (show bI false = nI 0 from rfl)]; rfl
      · rw [if_neg (show ¬ bI true = nI 0 by decide)]; rfl
  · intro k _ _
    show fX3_sizeOf_4 K (nI (zaC a n)) w (k + 1) (nI (zcnt (fun k => R a.1 k && zaG a k) 512)) (nI 512) = _
    rw [fX3_sizeOf_4, if_pos (show (512 : Int32) ≤ nI 512 by decide)]
    rfl
theorem zX3_weighAll (K : Nat) (hK : 512 < K) {codes : Nat → Int32} {A : Nat → zA} {m : Nat} (hL : zL codes m A (fun _ => false)) {w : Nat → Int64} {R : Nat → Nat → Bool} (hw : zeqR (zw w) R) (hz : zRin R A m) (sizes : Nat → Int32) (lh : Int32) (lp : Int64) :
    ∃ sizes', fX3_weighAll K codes (nI m) w sizes lh lp = some (sizes', nI (zlH A m (3 ^ m)), lN (zlP A (fun i => zsz R (A i)) m (3 ^ m))) := by
  have hm := hL.1
  have h243 : 3 ^ m ≤ 243 := by
    rw [show (243 : Nat) = 3 ^ 5 from rfl]; exact Nat.pow_le_pow_right (by decide) hm
  have hp : ∀ i, i ≤ m → 3 ^ i ≤ 243 := fun i hi => Nat.le_trans (Nat.pow_le_pow_right (by decide) hi) h243
  have e1 : (1 : Int32) = nI 1 := rfl
  have e3 : (3 : Int32) = nI 3 := rfl
  obtain ⟨sz', h1, e⟩ := z_forD (F := fun k i (z : Nat → Int32) => fX3_weighAll_5 K codes (nI m) w k (nI (3 ^ i)) (nI i) z lh lp) (n := m)
    (inv := fun i z => ∀ j, j < i → z j = nI (zsz R (A j))) (D := fun z => fX3_weighAll_59 K codes (nI m) w K (nI (3 ^ m)) (nI 0) z (nI 10) (lN zMAX))
    (by
      intro k i z hi hv
      refine ⟨upd z i (nI (zsz R (A i))), ?_, ?_⟩
      · intro j hj
        rw [zu_at]
        by_cases g : j = i
        · rw [if_pos g, g]
        · rw [if_neg g]; exact hv j (by omega)
      · obtain ⟨a1, a2⟩ := hL.2 i hi
        show fX3_weighAll_5 K codes (nI m) w (k + 1) (nI (3 ^ i)) (nI i) z lh lp = _
        rw [fX3_weighAll_5, if_neg (by rw [zi_le (by omega) (by omega)]; omega), zX2_at hL hi, Option.bind_some, zX3_sizeOf K hK a1 false hw (hz i hi), Option.bind_some, zX6_put _ z (show i < 5 by omega) (by omega), Option.bind_some, e3, zi_mul, e1, zi_add, ← Nat.pow_succ])
    (by
      intro k z hv
      show fX3_weighAll_5 K codes (nI m) w (k + 1) (nI (3 ^ m)) (nI m) z lh lp = _
      rw [fX3_weighAll_5, if_pos (by rw [zi_le (by omega) (by omega)]; omega)]
      rfl)
    m K 0 sizes (by omega) (fun j hj => by omega) (by omega)
  refine ⟨sz', ?_⟩
  unfold fX3_weighAll
  have e' : fX3_weighAll_5 K codes (nI m) w K 1 0 sizes lh lp = _ := e
  rw [e']
  refine z_forE (F := fun k n (_ : Unit) => fX3_weighAll_59 K codes (nI m) w k (nI (3 ^ m)) (nI n) sz' (nI (zlH A m n)) (lN (zlP A (fun i => zsz R (A i)) m n))) (n := 3 ^ m) (inv := fun _ _ => True) ?_ ?_ (3 ^ m) K 0 () (by omega) trivial (by omega)
  · intro k n _ hn _
    left
    refine ⟨(), trivial, ?_⟩
    show fX3_weighAll_59 K codes (nI m) w (k + 1) (nI (3 ^ m)) (nI n) sz' (nI (zlH A m n)) (lN (zlP A (fun i => zsz R (A i)) m n)) = _
    rw [fX3_weighAll_59, if_neg (by rw [zi_le (by omega) (by omega)]; omega), zX3_weigh K hL (fun i hi => ⟨h1 i hi, zcnt_le _ _⟩) hn (by omega), Option.bind_some, e1, zi_add]
  · intro k _ _
    show fX3_weighAll_59 K codes (nI m) w (k + 1) (nI (3 ^ m)) (nI (3 ^ m)) sz' (nI (zlH A m (3 ^ m))) (lN (zlP A (fun i => zsz R (A i)) m (3 ^ m))) = _
    rw [fX3_weighAll_59, if_pos (by rw [zi_le (by omega) (by omega)]; omega)]
