theorem zX12_answerAtL (K : Nat) (hK : 4096 < K) {now : Nat → Int32} {s : Nat → Nat} (h : zM now s) {row : Nat → Int32} {R : Nat → Nat → Bool} (hR : zMr row R) {q : Nat} (hq : q < 4) (hQ : zQ s q) (ho : zOr (zqo s q)) {place : Nat → Int32} (hpl : zMp place (zqpl s q) (zqc s q)) {m : Nat} (hm : m < zqc s q) {value : Nat → Int32} (hval : ∃ val, zMv value val) (thr : Int32) {n : Nat} (hn : n < zcnt (zqP R s q) 4096) :
    ∃ r value', r < 4096 ∧ zqP R s q r = true ∧ zcnt (zqP R s q) r = n ∧ fX12_answerAt_44 K now row (nI q) (nI n) (nI (zqpl s q m)) K (nI (zall8 s q)) (nI n) (nI 0) thr value place (nI (zqc s q)) = some (nI (zvy s q r (zqpl s q m)), thr, value', place, nI (zqc s q)) ∧ ∃ val, zMv value' val := by
  have hle := zall8_le s q
  have hp4 := (hpl m hm).2
  have hcl := zcnt_le (zqP R s q) 4096
  have hall : zcnt (zqP R s q) 4096 = zcnt (zqP R s q) (zall8 s q) := zcnt_flat hle (fun i h1 _ => zqP_out h1)
  obtain ⟨r, ⟨r', v', a1, a2, a3, hr, hr2⟩, e⟩ := z_for (F := fun k i (v : (Nat → Int32) × Nat) => fX12_answerAt_44 K now row (nI q) (nI n) (nI (zqpl s q m)) k (nI (zall8 s q)) (nI v.2) (nI i) thr v.1 place (nI (zqc s q))) (n := zall8 s q) (inv := fun i v => (∃ val, zMv v.1 val) ∧ zcnt (zqP R s q) i + v.2 = n) (post := fun r => ∃ r' v', r' < 4096 ∧ zqP R s q r' = true ∧ zcnt (zqP R s q) r' = n ∧ r = (nI (zvy s q r' (zqpl s q m)), thr, v', place, nI (zqc s q)) ∧ ∃ val, zMv v' val)
    (by
      intro k i v hi hinv
      obtain ⟨hv1, hv2⟩ := hinv
      obtain ⟨v2, e3, val2, h3, h4⟩ := zX12_ans (K := K) (by omega) h hR hq hQ ho hpl hi hv1
      have e1 : (1 : Int32) = nI 1 := rfl
      have hin : inB (nI (zqpl s q m)) 4 = true := by rw [zi_inB (by omega)]; exact hp4
      have hvv : v2 (nI (zqpl s q m)).toNatClampNeg = nI (zvy s q i (zqpl s q m)) := by rw [zi_clamp (by omega), (h3 _ hp4).1, h4 m hm]
      have eqn : fX12_answerAt_44 K now row (nI q) (nI n) (nI (zqpl s q m)) (k + 1) (nI (zall8 s q)) (nI v.2) (nI i) thr v.1 place (nI (zqc s q)) = if zqP R s q i = false then fX12_answerAt_44 K now row (nI q) (nI n) (nI (zqpl s q m)) k (nI (zall8 s q)) (nI v.2) (nI (i + 1)) thr v2 place (nI (zqc s q)) else if v.2 = 0 then some (nI (zvy s q i (zqpl s q m)), thr, v2, place, nI (zqc s q)) else fX12_answerAt_44 K now row (nI q) (nI n) (nI (zqpl s q m)) k (nI (zall8 s q)) (nI v.2 + -1) (nI (i + 1)) thr v2 place (nI (zqc s q)) := by
        rw [fX12_answerAt_44, if_neg (by rw [zi_le (by omega) (by omega)]; omega), e3, Option.bind_some]
        unfold fX12_answerAt_79
        dsimp only
        cases zqP R s q i
        · rw [if_pos (show bI false = 0 from rfl), if_pos rfl, e1, zi_add]
        · rw [if_neg (show ¬ bI true = 0 by decide), if_neg (show ¬ true = false by decide)]
          by_cases g : v.2 = 0
          · rw [if_pos (by rw [g]; rfl), if_pos hin, if_pos g, hvv]
          · rw [if_neg (by rw [show (0 : Int32) = nI 0 from rfl, zi_eq (by omega) (by omega)]; exact g), if_neg g, e1, zi_add]
      show (∃ s', _ ∧ fX12_answerAt_44 K now row (nI q) (nI n) (nI (zqpl s q m)) (k + 1) (nI (zall8 s q)) (nI v.2) (nI i) thr v.1 place (nI (zqc s q)) = _) ∨ ∃ r, _ ∧ fX12_answerAt_44 K now row (nI q) (nI n) (nI (zqpl s q m)) (k + 1) (nI (zall8 s q)) (nI v.2) (nI i) thr v.1 place (nI (zqc s q)) = _
      rw [eqn]
      cases hp : zqP R s q i
      · left
        refine ⟨(v2, v.2), ⟨⟨val2, h3⟩, ?_⟩, by rw [if_pos rfl]⟩
        rw [zcnt_s, hp]; exact hv2
      · by_cases g : v.2 = 0
        · right
          exact ⟨_, ⟨i, v2, by omega, hp, by omega, rfl, val2, h3⟩, by rw [if_neg (show ¬ true = false by decide), if_pos g]⟩
        · left
          refine ⟨(v2, v.2 - 1), ⟨⟨val2, h3⟩, ?_⟩, ?_⟩
          · rw [zcnt_s, hp]
            show _ + 1 + (v.2 - 1) = n
            omega
          · rw [if_neg (show ¬ true = false by decide), if_neg g]
            have : nI v.2 + -1 = nI (v.2 - 1) := by
              obtain ⟨z, hz⟩ : ∃ z, v.2 = z + 1 := ⟨v.2 - 1, by omega⟩
              rw [hz, zi_dec, Nat.add_sub_cancel]
            rw [this])
    (by
      intro k v hinv
      exfalso
      obtain ⟨_, hv2⟩ := hinv
      omega)
    _ K 0 (value, n) (Nat.zero_add _) ⟨hval, by rw [zcnt_0]; show 0 + n = n; omega⟩ (by omega)
  exact ⟨r', v', a1, a2, a3, by rw [hr] at e; exact e, hr2⟩
theorem zX12_answerAtN (K : Nat) (hK : 4096 < K) {now : Nat → Int32} {s : Nat → Nat} (h : zM now s) {row : Nat → Int32} {R : Nat → Nat → Bool} (hR : zMr row R) {q : Nat} (hq : q < 4) (hQ : zQ s q) (ho : zOr (zqo s q)) {place : Nat → Int32} (hpl : zMp place (zqpl s q) (zqc s q)) (p3 : Int32) {value : Nat → Int32} (hval : ∃ val, zMv value val) (thr : Int32) {n : Nat} (hn2 : n < 2147483648) (hn : zcnt (zqP R s q) 4096 ≤ n) :
    ∃ value', fX12_answerAt_44 K now row (nI q) (nI n) p3 K (nI (zall8 s q)) (nI n) (nI 0) thr value place (nI (zqc s q)) = some (0, 1, value', place, nI (zqc s q)) ∧ ∃ val, zMv value' val := by
  have hle := zall8_le s q
  have hall : zcnt (zqP R s q) 4096 = zcnt (zqP R s q) (zall8 s q) := zcnt_flat hle (fun i h1 _ => zqP_out h1)
  obtain ⟨r, ⟨v', hr, hr2⟩, e⟩ := z_for (F := fun k i (v : (Nat → Int32) × Nat) => fX12_answerAt_44 K now row (nI q) (nI n) p3 k (nI (zall8 s q)) (nI v.2) (nI i) thr v.1 place (nI (zqc s q))) (n := zall8 s q) (inv := fun i v => (∃ val, zMv v.1 val) ∧ zcnt (zqP R s q) i + v.2 = n) (post := fun r => ∃ v', r = (0, 1, v', place, nI (zqc s q)) ∧ ∃ val, zMv v' val)
    (by
      intro k i v hi hinv
      obtain ⟨hv1, hv2⟩ := hinv
      obtain ⟨v2, e3, val2, h3, h4⟩ := zX12_ans (K := K) (by omega) h hR hq hQ ho hpl hi hv1
      have e1 : (1 : Int32) = nI 1 := rfl
      have hmono := zcnt_mono (zqP R s q) (show i + 1 ≤ zall8 s q by omega)
      have hs := zcnt_s (zqP R s q) i
      left
      refine ⟨(v2, v.2 - (zqP R s q i).toNat), ⟨⟨val2, h3⟩, ?_⟩, ?_⟩
      · show zcnt (zqP R s q) (i + 1) + (v.2 - (zqP R s q i).toNat) = n
        omega
      · show fX12_answerAt_44 K now row (nI q) (nI n) p3 (k + 1) (nI (zall8 s q)) (nI v.2) (nI i) thr v.1 place (nI (zqc s q)) = _
        rw [fX12_answerAt_44, if_neg (by rw [zi_le (by omega) (by omega)]; omega), e3, Option.bind_some]
        unfold fX12_answerAt_79
        dsimp only
        cases hp : zqP R s q i
        · rw [if_pos (show bI false = 0 from rfl), e1, zi_add]; rfl
        · rw [hp] at hs
          simp only [Bool.toNat_true] at hs
          rw [if_neg (show ¬ bI true = 0 by decide), if_neg (by rw [show (0 : Int32) = nI 0 from rfl, zi_eq (by omega) (by omega)]; omega), e1, zi_add]
          have : nI v.2 + -1 = nI (v.2 - 1) := by
            obtain ⟨z, hz⟩ : ∃ z, v.2 = z + 1 := ⟨v.2 - 1, by omega⟩
            rw [hz, zi_dec, Nat.add_sub_cancel]
          rw [show (-nI 1 : Int32) = -1 from rfl, this]; rfl)
    (by
      intro k v hinv
      obtain ⟨hv1, _⟩ := hinv
      refine ⟨_, ⟨v.1, rfl, hv1⟩, ?_⟩
      show fX12_answerAt_44 K now row (nI q) (nI n) p3 (k + 1) (nI (zall8 s q)) (nI v.2) (nI (zall8 s q)) thr v.1 place (nI (zqc s q)) = _
      rw [fX12_answerAt_44, if_pos (by rw [zi_le (by omega) (by omega)]; omega)]
      rfl)
    _ K 0 (value, n) (Nat.zero_add _) ⟨hval, by rw [zcnt_0]; show 0 + n = n; omega⟩ (by omega)
  exact ⟨v', by rw [hr] at e; exact e, hr2⟩
theorem zX12_seekL (K : Nat) (hK : 4096 < K) {now : Nat → Int32} {s : Nat → Nat} (h : zM now s) {row : Nat → Int32} {R : Nat → Nat → Bool} (hR : zMr row R) {q : Nat} (hq : q < 4) (hQ : zQ s q) (ho : zOr (zqo s q)) {place : Nat → Int32} (hpl : zMp place (zqpl s q) (zqc s q)) (p2 p3 p4 p5 : Int32) {value : Nat → Int32} (hval : ∃ val, zMv value val) {from_ : Nat} (hf : from_ ≤ 4096) :
    ∃ value', fX12_seek_107 K now row (nI q) p2 p3 p4 p5 K (nI (zall8 s q)) (nI from_) (nI 0) (nI 0) (nI 0) value place (nI (zqc s q)) = some (if zcnt (zqP R s q) from_ < zcnt (zqP R s q) 4096 then (nI (zcnt (zqP R s q) from_), nI 0, value', place, nI (zqc s q)) else (0, 3, value', place, nI (zqc s q))) ∧ ∃ val, zMv value' val := by
  have hle := zall8_le s q
  have hcl := zcnt_le (zqP R s q) 4096
  have hall : zcnt (zqP R s q) 4096 = zcnt (zqP R s q) (zall8 s q) := zcnt_flat hle (fun i h1 _ => zqP_out h1)
  have e1 : (1 : Int32) = nI 1 := rfl
  -- the second loop
  have L2 : ∀ (v : Nat → Int32), (∃ val, zMv v val) → from_ ≤ zall8 s q → ∃ value', fX12_seek_151 K now row (nI q) p2 p3 p4 p5 K (nI (zall8 s q)) (nI (zcnt (zqP R s q) from_)) (nI from_) (nI 0) v place (nI (zqc s q)) = some (if zcnt (zqP R s q) from_ < zcnt (zqP R s q) 4096 then (nI (zcnt (zqP R s q) from_), nI 0, value', place, nI (zqc s q)) else (0, 3, value', place, nI (zqc s q))) ∧ ∃ val, zMv value' val := by
    intro v hv hfa
    obtain ⟨r, ⟨v', hr, hr2⟩, e⟩ := z_for (F := fun k i (v : Nat → Int32) => fX12_seek_151 K now row (nI q) p2 p3 p4 p5 k (nI (zall8 s q)) (nI (zcnt (zqP R s q) from_)) (nI i) (nI 0) v place (nI (zqc s q))) (n := zall8 s q) (inv := fun i v => (∃ val, zMv v val) ∧ zcnt (zqP R s q) i = zcnt (zqP R s q) from_) (post := fun r => ∃ v', r = (if zcnt (zqP R s q) from_ < zcnt (zqP R s q) 4096 then (nI (zcnt (zqP R s q) from_), nI 0, v', place, nI (zqc s q)) else (0, 3, v', place, nI (zqc s q))) ∧ ∃ val, zMv v' val)
      (by
        intro k i v hi hinv
        obtain ⟨hv1, hv2⟩ := hinv
        obtain ⟨v2, e3, val2, h3, h4⟩ := zX12_ans (K := K) (by omega) h hR hq hQ ho hpl hi hv1
        have eqn : fX12_seek_151 K now row (nI q) p2 p3 p4 p5 (k + 1) (nI (zall8 s q)) (nI (zcnt (zqP R s q) from_)) (nI i) (nI 0) v place (nI (zqc s q)) = if zqP R s q i = false then fX12_seek_151 K now row (nI q) p2 p3 p4 p5 k (nI (zall8 s q)) (nI (zcnt (zqP R s q) from_)) (nI (i + 1)) (nI 0) v2 place (nI (zqc s q)) else some (nI (zcnt (zqP R s q) from_), nI 0, v2, place, nI (zqc s q)) := by
          rw [fX12_seek_151, if_neg (by rw [zi_le (by omega) (by omega)]; omega), e3, Option.bind_some]
          dsimp only
          cases zqP R s q i
          · rw [if_pos (show bI false = 0 from rfl), if_pos rfl, e1, zi_add]
          · rw [if_neg (show ¬ bI true = 0 by decide), if_neg (show ¬ true = false by decide)]
        rw [eqn]
        cases hp : zqP R s q i
        · left
          exact ⟨v2, ⟨⟨val2, h3⟩, by rw [zcnt_s, hp]; exact hv2⟩, by rw [if_pos rfl]⟩
        · right
          have hm := zcnt_mono (zqP R s q) (show i + 1 ≤ 4096 by omega)
          rw [zcnt_s, hp] at hm
          simp only [Bool.toNat_true] at hm
          exact ⟨_, ⟨v2, by rw [if_pos (by omega)], val2, h3⟩, by rw [if_neg (show ¬ true = false by decide)]⟩)
      (by
        intro k v hinv
        obtain ⟨hv1, hv2⟩ := hinv
        refine ⟨_, ⟨v, by rw [if_neg (by omega)], hv1⟩, ?_⟩
        rw [fX12_seek_151, if_pos (by rw [zi_le (by omega) (by omega)]; omega)]
        rfl)
      (zall8 s q - from_) K from_ v (by omega) ⟨hv, rfl⟩ (by omega)
    exact ⟨v', by rw [hr] at e; exact e, hr2⟩
  have L2b : ∀ (v : Nat → Int32), (∃ val, zMv v val) → zall8 s q ≤ from_ → ∃ value', fX12_seek_151 K now row (nI q) p2 p3 p4 p5 K (nI (zall8 s q)) (nI (zcnt (zqP R s q) (zall8 s q))) (nI from_) (nI 0) v place (nI (zqc s q)) = some (if zcnt (zqP R s q) from_ < zcnt (zqP R s q) 4096 then (nI (zcnt (zqP R s q) from_), nI 0, value', place, nI (zqc s q)) else (0, 3, value', place, nI (zqc s q))) ∧ ∃ val, zMv value' val := by
    intro v hv hfa
    obtain ⟨k, hk⟩ : ∃ k, K = k + 1 := ⟨K - 1, by omega⟩
    have hm := zcnt_mono (zqP R s q) hfa
    have gen : ∀ F, fX12_seek_151 F now row (nI q) p2 p3 p4 p5 (k + 1) (nI (zall8 s q)) (nI (zcnt (zqP R s q) (zall8 s q))) (nI from_) (nI 0) v place (nI (zqc s q)) = some (0, 3, v, place, nI (zqc s q)) := by
      intro F
      rw [fX12_seek_151, if_pos (by rw [zi_le (by omega) (by omega)]; omega)]; rfl
    refine ⟨v, ?_, hv⟩
    rw [if_neg (by omega), hk, gen]
  obtain ⟨r, ⟨v', hr, hr2⟩, e⟩ := z_for (F := fun k i (v : Nat → Int32) => fX12_seek_107 K now row (nI q) p2 p3 p4 p5 k (nI (zall8 s q)) (nI from_) (nI (zcnt (zqP R s q) i)) (nI i) (nI 0) v place (nI (zqc s q))) (n := if from_ ≤ zall8 s q then from_ else zall8 s q) (inv := fun i v => ∃ val, zMv v val) (post := fun r => ∃ v', r = (if zcnt (zqP R s q) from_ < zcnt (zqP R s q) 4096 then (nI (zcnt (zqP R s q) from_), nI 0, v', place, nI (zqc s q)) else (0, 3, v', place, nI (zqc s q))) ∧ ∃ val, zMv v' val)
    (by
      intro k i v hi hinv
      have hi1 : i < from_ ∧ i < zall8 s q := by split at hi <;> omega
      obtain ⟨v2, e3, val2, h3, h4⟩ := zX12_ans (K := K) (by omega) h hR hq hQ ho hpl hi1.2 hinv
      left
      refine ⟨v2, ⟨val2, h3⟩, ?_⟩
      rw [fX12_seek_107, if_neg (by rw [zi_le (by omega) (by omega)]; omega), if_neg (by rw [zi_le (by omega) (by omega)]; omega), e3, Option.bind_some]
      unfold fX12_seek_138
      dsimp only
      rw [zcnt_s]
      cases zqP R s q i
      · rw [if_pos (show bI false = 0 from rfl), e1, show (0 : Int32) = nI 0 from rfl, zi_add, zi_add]; rfl
      · rw [if_neg (show ¬ bI true = 0 by decide), e1, zi_add, zi_add]; rfl)
    (by
      intro k v hinv
      by_cases g : from_ ≤ zall8 s q
      · rw [if_pos g]
        obtain ⟨v', e2, h2⟩ := L2 v hinv g
        refine ⟨_, ⟨v', rfl, h2⟩, ?_⟩
        rw [fX12_seek_107, if_pos (by rw [zi_le (by omega) (by omega)]; omega)]
        unfold fX12_seek_147
        exact e2
      · rw [if_neg g]
        obtain ⟨v', e2, h2⟩ := L2b v hinv (by omega)
        refine ⟨_, ⟨v', rfl, h2⟩, ?_⟩
        rw [fX12_seek_107, if_neg (by rw [zi_le (by omega) (by omega)]; omega), if_pos (by rw [zi_le (by omega) (by omega)]; omega)]
        unfold fX12_seek_147
        exact e2)
    _ K 0 value (Nat.zero_add _) hval (by split <;> omega)
  exact ⟨v', by rw [hr] at e; exact e, hr2⟩
/-- the rows that an atom makes with the answers -/
def zmade (R : Nat → Nat → Bool) (s : Nat → Nat) (q : Nat) (a : zA) (n k : Nat) : Bool := zany (fun y => zqP R s q y && decide (zaR a (zvy s q y) = k)) n
theorem zX12_findsMade (K : Nat) (hK : 4096 < K) {now : Nat → Int32} {s : Nat → Nat} (h : zM now s) {row : Nat → Int32} {R : Nat → Nat → Bool} (hR : zMr row R) {q : Nat} (hq : q < 4) (hQ : zQ s q) (ho : zOr (zqo s q)) {i : Nat} (hi : i < zqn s q) {value : Nat → Int32} (hval : ∃ val, zMv value val) (place : Nat → Int32) (places : Int32) (made : Nat → Int32) :
    ∃ value' place' places' made', fX12_findsMade K now row (nI q) (nI i) value place places made = some (value', place', places', made') ∧ (∃ val, zMv value' val) ∧ ∀ k, k < 512 → made' k = bI (zmade R s q (zqa s q i) 4096 k) := by
  have hle := zall8_le s q
  have hn := hQ.1
  have ha := hQ.2 i hi
  have hb : zqp q i + 3 < 2780 := by unfold zqp; omega
  have e1 : (1 : Int32) = nI 1 := rfl
  obtain ⟨place', ep, hp⟩ := zX12_choices K (by omega) h hq hQ ho place places
  have ep' : fX12_choices K now (nI q) place places = some (nI (zall8 s q), place', nI (zqc s q)) := ep
  have L31 : ∀ (v md : Nat → Int32), (∃ val, zMv v val) → (∀ k, k < 512 → md k = 0) → ∃ value' made', fX12_findsMade_31 K now row (nI q) (nI i) K (nI (zall8 s q)) (nI 0) v place' (nI (zqc s q)) md = some (value', place', nI (zqc s q), made') ∧ (∃ val, zMv value' val) ∧ ∀ k, k < 512 → made' k = bI (zmade R s q (zqa s q i) 4096 k) := by
    intro v md hv hmd
    obtain ⟨r, ⟨v', m', hr, hr2, hr3⟩, e⟩ := z_for (F := fun k j (w : (Nat → Int32) × (Nat → Int32)) => fX12_findsMade_31 K now row (nI q) (nI i) k (nI (zall8 s q)) (nI j) w.1 place' (nI (zqc s q)) w.2) (n := zall8 s q) (inv := fun j w => (∃ val, zMv w.1 val) ∧ ∀ k, k < 512 → w.2 k = bI (zmade R s q (zqa s q i) j k)) (post := fun r => ∃ v' m', r = (v', place', nI (zqc s q), m') ∧ (∃ val, zMv v' val) ∧ ∀ k, k < 512 → m' k = bI (zmade R s q (zqa s q i) 4096 k))
      (by
        intro k j w hj hinv
        obtain ⟨hv1, hv2⟩ := hinv
        obtain ⟨v2, e3, val2, h3, h4⟩ := zX12_ans (K := K) (by omega) h hR hq hQ ho hp hj hv1
        left
        cases hpq : zqP R s q j
        · refine ⟨(v2, w.2), ⟨⟨val2, h3⟩, ?_⟩, ?_⟩
          · intro k hk
            show w.2 k = _
            rw [hv2 k hk]; unfold zmade; rw [zany, hpq]; simp
          · rw [fX12_findsMade_31, if_neg (by rw [zi_le (by omega) (by omega)]; omega), e3, Option.bind_some]
            unfold fX12_findsMade_63
            dsimp only
            rw [hpq, if_pos (show bI false = 0 from rfl), e1, zi_add]
        · have hcode : zaR (zqa s q i) val2 = zaR (zqa s q i) (zvy s q j) := by
            apply zaR_cong ha
            intro z hz
            obtain ⟨m, hm, em⟩ := zqV hQ ho i hi _ ((zaH_iff ha).mpr ⟨z, hz, rfl⟩)
            rw [← em, h4 m hm]
          have hl := zaR_lt (a := zqa s q i) (zvy s q j) (fun v _ => zvy_lt s q j v) ha
          refine ⟨(v2, upd w.2 (zaR (zqa s q i) (zvy s q j)) 1), ⟨⟨val2, h3⟩, ?_⟩, ?_⟩
          · intro k hk
            show upd w.2 _ 1 k = _
            rw [zu_at]
            unfold zmade
            rw [zany, hpq, Bool.true_and]
            by_cases g : k = zaR (zqa s q i) (zvy s q j)
            · rw [if_pos g, decide_eq_true g.symm, Bool.or_true]; rfl
            · rw [if_neg g, decide_eq_false (fun z => g z.symm), Bool.or_false]; exact hv2 k hk
          · rw [fX12_findsMade_31, if_neg (by rw [zi_le (by omega) (by omega)]; omega), e3, Option.bind_some]
            unfold fX12_findsMade_63
            dsimp only
            rw [hpq, if_neg (show ¬ bI true = 0 by decide), zX12_atomAt, Option.bind_some, zX12_codeBy K (by omega) h h3 hb ha, Option.bind_some]
            have hcode2 : zaR (zat s (zqp q i)) val2 = zaR (zqa s q i) (zvy s q j) := hcode
            have e11 : (1 : Int32) &&& 1 = 1 := by decide
            rw [hcode2, if_pos (by rw [zi_inB (by omega)]; exact hl), zi_clamp (by omega), e11, show nI j + (1 : Int32) = nI (j + 1) from (nI_succ j).symm])
      (by
        intro k w hinv
        obtain ⟨hv1, hv2⟩ := hinv
        refine ⟨_, ⟨w.1, w.2, rfl, hv1, ?_⟩, ?_⟩
        · intro k hk
          rw [hv2 k hk]
          apply congrArg bI
          unfold zmade
          rw [Bool.eq_iff_iff, zany_iff, zany_iff]
          constructor
          · rintro ⟨y, hy, g⟩; exact ⟨y, by omega, g⟩
          · rintro ⟨y, hy, g⟩
            refine ⟨y, ?_, g⟩
            apply Classical.byContradiction
            intro g2
            rw [zqP_out (by omega)] at g; simp at g
        · rw [fX12_findsMade_31, if_pos (by rw [zi_le (by omega) (by omega)]; omega)])
      _ K 0 (v, md) (Nat.zero_add _) ⟨hv, fun k hk => by show md k = _; rw [hmd k hk]; rfl⟩ (by omega)
    exact ⟨v', m', by rw [hr] at e; exact e, hr2, hr3⟩
  unfold fX12_findsMade
  obtain ⟨r, ⟨v', m', hr, hr2, hr3⟩, e⟩ := z_for (F := fun k j (w : Nat → Int32) => fX12_findsMade_2 K now row (nI q) (nI i) k (nI j) value place places w) (n := 512) (inv := fun j w => ∀ k, k < j → w k = 0) (post := fun r => ∃ v' m', r = (v', place', nI (zqc s q), m') ∧ (∃ val, zMv v' val) ∧ ∀ k, k < 512 → m' k = bI (zmade R s q (zqa s q i) 4096 k))
    (by
      intro k j w hj hinv
      left
      refine ⟨upd w j 0, ?_, ?_⟩
      · intro k hk
        rw [zu_at]; split
        · rfl
        · exact hinv k (by omega)
      · have e0 : ((0 : Int32) &&& 1) = 0 := by decide
        rw [fX12_findsMade_2, if_neg (by rw [show (512 : Int32) = nI 512 from rfl, zi_le (by omega) (by omega)]; omega), if_pos (by rw [zi_inB (by omega)]; exact hj), zi_clamp (by omega), e0, e1, zi_add])
    (by
      intro k w hinv
      obtain ⟨v', m', e2, h2, h3⟩ := L31 value w hval hinv
      refine ⟨_, ⟨v', m', rfl, h2, h3⟩, ?_⟩
      rw [fX12_findsMade_2, if_pos (by decide), ep', Option.bind_some]
      exact e2)
    512 K 0 made (by omega) (fun k hk => absurd hk (Nat.not_lt_zero _)) (by omega)
  exact ⟨v', place', nI (zqc s q), m', by rw [hr] at e; exact e, hr2, hr3⟩
