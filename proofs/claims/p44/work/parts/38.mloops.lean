/-! the reference's loops over the answers -/
/-- the value of a variable in an answer -/
def zvy (s : Nat → Nat) (q y v : Nat) : Nat := zpk (zqpl s q) (zqc s q) y (zqc s q) v % 8
theorem zvy_at {s : Nat → Nat} {q : Nat} (ho : zOr (zqo s q)) (y : Nat) {m : Nat} (hm : m < zqc s q) : zvy s q y (zqpl s q m) = zdig (zqc s q) y m := by
  unfold zvy
  rw [zpk_at (zqD ho) (zqc s q) m (by omega) hm (Nat.le_refl _)]
  unfold zdig; omega
theorem zvy_lt (s : Nat → Nat) (q y v : Nat) : zvy s q y v < 8 := Nat.mod_lt _ (by decide)
/-- a number of choices -/
def zall8 (s : Nat → Nat) (q : Nat) : Nat := if zqc s q = 0 then 0 else 8 ^ zqc s q
theorem zall8_le (s : Nat → Nat) (q : Nat) : zall8 s q ≤ 4096 := by
  have := zp8 (zqc_le s q)
  unfold zall8; split <;> omega
theorem zall8_lt {s : Nat → Nat} {q i : Nat} (h : i < zall8 s q) : 0 < zqc s q ∧ i < 8 ^ zqc s q := by
  unfold zall8 at h
  by_cases g : zqc s q = 0
  · rw [if_pos g] at h; omega
  · rw [if_neg g] at h; exact ⟨by omega, h⟩
theorem zqP_out {R : Nat → Nat → Bool} {s : Nat → Nat} {q y : Nat} (h : zall8 s q ≤ y) : zqP R s q y = false := by
  unfold zqP zans
  unfold zall8 at h
  by_cases g : zqc s q = 0
  · rw [decide_eq_false (by omega)]; rfl
  · rw [if_neg g] at h; rw [decide_eq_false (by omega : ¬ y < 8 ^ zqc s q)]; simp
theorem zqP_all (R : Nat → Nat → Bool) (s : Nat → Nat) (q : Nat) (f : Nat → Bool) : zcnt (fun y => zqP R s q y && f y) 4096 = zcnt (fun y => zqP R s q y && f y) (zall8 s q) :=
  zcnt_flat (zall8_le s q) (fun i h1 _ => by rw [zqP_out h1]; rfl)
theorem zX12_ans {K : Nat} (hK : 5 < K) {now : Nat → Int32} {s : Nat → Nat} (h : zM now s) {row : Nat → Int32} {R : Nat → Nat → Bool} (hR : zMr row R) {q : Nat} (hq : q < 4) (hQ : zQ s q) (ho : zOr (zqo s q)) {place : Nat → Int32} (hpl : zMp place (zqpl s q) (zqc s q)) {y : Nat} (hy : y < zall8 s q) {value : Nat → Int32} (hval : ∃ val, zMv value val) :
    ∃ value', fX12_isAnswer K now row place (nI (zqc s q)) (nI q) (nI y) value = some (zqP R s q y, value') ∧ (∃ val', zMv value' val' ∧ ∀ m, m < zqc s q → val' (zqpl s q m) = zvy s q y (zqpl s q m)) := by
  obtain ⟨val, hv⟩ := hval
  obtain ⟨h1, h2⟩ := zall8_lt hy
  obtain ⟨v', val', e, h3, h4⟩ := zX12_isAnswer K hK h hR hq hQ ho hpl h2 h1 hv
  exact ⟨v', e, val', h3, fun m hm => by rw [h4 m hm, zvy_at ho y hm]⟩
theorem zX12_groupSizeL (K : Nat) (hK : 4096 < K) {now : Nat → Int32} {s : Nat → Nat} (h : zM now s) {row : Nat → Int32} {R : Nat → Nat → Bool} (hR : zMr row R) {q : Nat} (hq : q < 4) (hQ : zQ s q) (ho : zOr (zqo s q)) {place : Nat → Int32} (hpl : zMp place (zqpl s q) (zqc s q)) {m x : Nat} (hm : m < zqc s q) (hx : x < 8) {value : Nat → Int32} (hval : ∃ val, zMv value val) (thr : Int32) :
    ∃ value', fX12_groupSize_56 K now row (nI q) (nI (zqpl s q m)) (nI x) K (nI (zall8 s q)) (nI 0) (nI 0) thr value place (nI (zqc s q)) = some (nI (zcnt (fun y => zqP R s q y && decide (zvy s q y (zqpl s q m) = x)) 4096), thr, value', place, nI (zqc s q)) ∧ ∃ val, zMv value' val := by
  have hle := zall8_le s q
  have hp4 := (hpl m hm).2
  obtain ⟨r, ⟨v', hr, hr2⟩, e⟩ := z_for (F := fun k i (v : Nat → Int32) => fX12_groupSize_56 K now row (nI q) (nI (zqpl s q m)) (nI x) k (nI (zall8 s q)) (nI (zcnt (fun y => zqP R s q y && decide (zvy s q y (zqpl s q m) = x)) i)) (nI i) thr v place (nI (zqc s q))) (n := zall8 s q) (inv := fun i v => ∃ val, zMv v val) (post := fun r => ∃ v', r = (nI (zcnt (fun y => zqP R s q y && decide (zvy s q y (zqpl s q m) = x)) 4096), thr, v', place, nI (zqc s q)) ∧ ∃ val, zMv v' val)
    (by
      intro k i v hi hinv
      obtain ⟨v2, e3, val2, h3, h4⟩ := zX12_ans (K := K) (by omega) h hR hq hQ ho hpl hi hinv
      left
      refine ⟨v2, ⟨val2, h3⟩, ?_⟩
      show fX12_groupSize_56 K now row (nI q) (nI (zqpl s q m)) (nI x) (k + 1) (nI (zall8 s q)) (nI (zcnt (fun y => zqP R s q y && decide (zvy s q y (zqpl s q m) = x)) i)) (nI i) thr v place (nI (zqc s q)) = _
      have e1 : (1 : Int32) = nI 1 := rfl
      have e0 : (0 : Int32) = nI 0 := rfl
      have hin : inB (nI (zqpl s q m)) 4 = true := by rw [zi_inB (by omega)]; exact hp4
      have hvv : v2 (nI (zqpl s q m)).toNatClampNeg = nI (zvy s q i (zqpl s q m)) := by rw [zi_clamp (by omega), (h3 _ hp4).1, h4 m hm]
      have hz8 := zvy_lt s q i (zqpl s q m)
      rw [fX12_groupSize_56, if_neg (by rw [zi_le (by omega) (by omega)]; omega), e3, Option.bind_some]
      unfold fX12_groupSize_89 fX12_groupSize_90
      rw [zcnt_s]
      dsimp only
      cases zqP R s q i
      · rw [if_pos (show bI false = 0 from rfl), e1, e0, zi_add, zi_add]; rfl
      · rw [if_neg (show ¬ bI true = 0 by decide), if_pos hin, Bool.true_and]
        by_cases g : zvy s q i (zqpl s q m) = x
        · rw [if_pos (by rw [hvv, g]), decide_eq_true g, e1, zi_add, zi_add]; rfl
        · rw [if_neg (by rw [hvv, zi_eq (by omega) (by omega)]; exact g), decide_eq_false g, e1, e0, zi_add, zi_add]; rfl)
    (by
      intro k v hinv
      refine ⟨_, ⟨v, rfl, hinv⟩, ?_⟩
      show fX12_groupSize_56 K now row (nI q) (nI (zqpl s q m)) (nI x) (k + 1) (nI (zall8 s q)) (nI (zcnt (fun y => zqP R s q y && decide (zvy s q y (zqpl s q m) = x)) (zall8 s q))) (nI (zall8 s q)) thr v place (nI (zqc s q)) = _
      rw [fX12_groupSize_56, if_pos (by rw [zi_le (by omega) (by omega)]; omega), zqP_all R s q (fun y => decide (zvy s q y (zqpl s q m) = x))])
    _ K 0 value (Nat.zero_add _) hval (by omega)
  exact ⟨v', by rw [hr] at e; exact e, hr2⟩
theorem zX12_bitsOf (K : Nat) (hK : 8 < K) {b : Nat} (hb : b < 256) : fX12_bitsOf K (nI b) = some (nI (zcnt (fun i => b.testBit i) 8)) := by
  unfold fX12_bitsOf
  refine z_forE (F := fun k i (u : Nat) => fX12_bitsOf_4 K (nI b) k (nI u) (nI i)) (n := 8) (inv := fun i u => u = zcnt (fun i => b.testBit i) i) ?_ ?_ 8 K 0 0 (by omega) rfl (by omega)
  · intro k i u hi hu
    left
    refine ⟨_, rfl, ?_⟩
    have hs : i % 32 = i := by omega
    have hbt : b / 2 ^ i % 2 = (b.testBit i).toNat := by
      rw [Nat.testBit_eq_decide_div_mod_eq]
      rcases Nat.mod_two_eq_zero_or_one (b / 2 ^ i) with g | g <;> rw [g] <;> rfl
    simp (disch := omega) only [fX12_bitsOf_4, zi_lit, zi_le, zi_and, zn_and31, hs, zi_shrP, zn_and1, hbt, zi_add]
    rw [if_neg (by omega), hu]; rfl
  · intro k u hu
    simp (disch := omega) only [fX12_bitsOf_4, zi_lit, zi_le]
    rw [if_pos (by omega), hu]
/-- a set of values as bits -/
def zsb (p : Nat → Bool) : Nat → Nat
  | 0 => 0
  | n + 1 => zsb p n ||| (if p n = true then 2 ^ n else 0)
theorem zor_bit {b x i : Nat} : (b ||| 2 ^ x).testBit i = (b.testBit i || decide (x = i)) := by rw [Nat.testBit_or, Nat.testBit_two_pow]
theorem zor_256 {b x : Nat} (hb : b < 256) (hx : x < 8) : b ||| 2 ^ x < 256 := by
  have h2 : (2 : Nat) ^ x < 2 ^ 8 := Nat.pow_lt_pow_right (by decide) hx
  exact Nat.or_lt_two_pow (n := 8) hb h2
theorem zX12_groupsL (K : Nat) (hK : 4096 < K) {now : Nat → Int32} {s : Nat → Nat} (h : zM now s) {row : Nat → Int32} {R : Nat → Nat → Bool} (hR : zMr row R) {q : Nat} (hq : q < 4) (hQ : zQ s q) (ho : zOr (zqo s q)) {place : Nat → Int32} (hpl : zMp place (zqpl s q) (zqc s q)) {m : Nat} (hm : m < zqc s q) {value : Nat → Int32} (hval : ∃ val, zMv value val) (thr : Int32) :
    ∃ value', fX12_groups_39 K now row (nI q) (nI (zqpl s q m)) K (nI (zall8 s q)) (nI 0) (nI 0) thr value place (nI (zqc s q)) = some (nI (zcnt (fun x => zany (fun y => zqP R s q y && decide (zvy s q y (zqpl s q m) = x)) 4096) 8), thr, value', place, nI (zqc s q)) ∧ ∃ val, zMv value' val := by
  have hle := zall8_le s q
  have hp4 := (hpl m hm).2
  obtain ⟨r, ⟨v', hr, hr2⟩, e⟩ := z_for (F := fun k i (v : (Nat → Int32) × Nat) => fX12_groups_39 K now row (nI q) (nI (zqpl s q m)) k (nI (zall8 s q)) (nI v.2) (nI i) thr v.1 place (nI (zqc s q))) (n := zall8 s q) (inv := fun i v => (∃ val, zMv v.1 val) ∧ v.2 < 256 ∧ ∀ x, x < 8 → v.2.testBit x = zany (fun y => zqP R s q y && decide (zvy s q y (zqpl s q m) = x)) i) (post := fun r => ∃ v', r = (nI (zcnt (fun x => zany (fun y => zqP R s q y && decide (zvy s q y (zqpl s q m) = x)) 4096) 8), thr, v', place, nI (zqc s q)) ∧ ∃ val, zMv v' val)
    (by
      intro k i v hi hinv
      obtain ⟨hv1, hv2, hv3⟩ := hinv
      obtain ⟨v2, e3, val2, h3, h4⟩ := zX12_ans (K := K) (by omega) h hR hq hQ ho hpl hi hv1
      have e1 : (1 : Int32) = nI 1 := rfl
      have e31 : (31 : Int32) = nI 31 := rfl
      have hin : inB (nI (zqpl s q m)) 4 = true := by rw [zi_inB (by omega)]; exact hp4
      have hvv : v2 (nI (zqpl s q m)).toNatClampNeg = nI (zvy s q i (zqpl s q m)) := by rw [zi_clamp (by omega), (h3 _ hp4).1, h4 m hm]
      have hz8 := zvy_lt s q i (zqpl s q m)
      left
      cases hp : zqP R s q i
      · refine ⟨(v2, v.2), ⟨⟨val2, h3⟩, hv2, ?_⟩, ?_⟩
        · intro x hx
          show v.2.testBit x = _
          rw [hv3 x hx, zany, hp]; simp
        · show fX12_groups_39 K now row (nI q) (nI (zqpl s q m)) (k + 1) (nI (zall8 s q)) (nI v.2) (nI i) thr v.1 place (nI (zqc s q)) = _
          rw [fX12_groups_39, if_neg (by rw [zi_le (by omega) (by omega)]; omega), e3, Option.bind_some]
          unfold fX12_groups_68
          dsimp only
          rw [hp, if_pos (show bI false = 0 from rfl), e1, zi_add]
      · refine ⟨(v2, v.2 ||| 2 ^ zvy s q i (zqpl s q m)), ⟨⟨val2, h3⟩, zor_256 hv2 hz8, ?_⟩, ?_⟩
        · intro x hx
          show (v.2 ||| _).testBit x = _
          rw [zor_bit, hv3 x hx, zany, hp, Bool.true_and]
        · show fX12_groups_39 K now row (nI q) (nI (zqpl s q m)) (k + 1) (nI (zall8 s q)) (nI v.2) (nI i) thr v.1 place (nI (zqc s q)) = _
          rw [fX12_groups_39, if_neg (by rw [zi_le (by omega) (by omega)]; omega), e3, Option.bind_some]
          unfold fX12_groups_68
          dsimp only
          have hs : zvy s q i (zqpl s q m) % 32 = zvy s q i (zqpl s q m) := by omega
          rw [hp, if_neg (show ¬ bI true = 0 by decide), if_pos hin, hvv, e1, e31, zi_and, zn_and31, hs, zi_shlP _ (by omega), zi_or, zi_add, Nat.one_mul])
    (by
      intro k v hinv
      obtain ⟨hv1, hv2, hv3⟩ := hinv
      refine ⟨_, ⟨v.1, rfl, hv1⟩, ?_⟩
      show fX12_groups_39 K now row (nI q) (nI (zqpl s q m)) (k + 1) (nI (zall8 s q)) (nI v.2) (nI (zall8 s q)) thr v.1 place (nI (zqc s q)) = _
      rw [fX12_groups_39, if_pos (by rw [zi_le (by omega) (by omega)]; omega), zX12_bitsOf K (by omega) hv2, Option.bind_some]
      have hz : zcnt (fun i => v.2.testBit i) 8 = zcnt (fun x => zany (fun y => zqP R s q y && decide (zvy s q y (zqpl s q m) = x)) 4096) 8 := by
        apply zcnt_cong
        intro x hx
        rw [hv3 x hx, Bool.eq_iff_iff, zany_iff, zany_iff]
        constructor
        · rintro ⟨i, hi, g⟩; exact ⟨i, by omega, g⟩
        · rintro ⟨i, hi, g⟩
          refine ⟨i, ?_, g⟩
          apply Classical.byContradiction
          intro g2
          rw [zqP_out (by omega)] at g; simp at g
      rw [hz])
    _ K 0 (value, 0) (Nat.zero_add _) ⟨hval, by show 0 < 256; omega, fun x _ => by show (0 : Nat).testBit x = false; simp⟩ (by omega)
  exact ⟨v', by rw [hr] at e; exact e, hr2⟩
