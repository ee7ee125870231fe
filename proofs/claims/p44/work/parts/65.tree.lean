/-! the class takes a query apart -/
def zTc (sets : Nat → Int32) (L : Nat → Nat) (G : Nat → Bool) (m : Nat) : Prop := ∀ i, i < m → L i < 16 ∧ sets i = if G i = true then (-1 : Int32) else nI (L i)
theorem zTc_V {sets : Nat → Int32} {L : Nat → Nat} {G : Nat → Bool} {m i : Nat} (h : zTc sets L G m) (hG : G i = false) {x : Nat} (hx : x < 16) : zTc (upd sets i (nI x)) (zup L i x) G m := by
  intro j hj
  rw [zu_at]
  by_cases e : j = i
  · subst e
    rw [show zup L j x j = x from if_pos rfl, if_pos rfl, hG, if_neg (by decide)]
    exact ⟨hx, rfl⟩
  · rw [show zup L i x j = L j from if_neg e, if_neg e]
    exact h j hj
theorem zTc_A {sets : Nat → Int32} {L : Nat → Nat} {G : Nat → Bool} {m i : Nat} (h : zTc sets L G m) : zTc (upd sets i (-1)) L (zup G i true) m := by
  intro j hj
  rw [zu_at]
  by_cases e : j = i
  · subst e
    rw [show zup G j true j = true from if_pos rfl, if_pos rfl, if_pos rfl]
    exact ⟨(h j hj).1, rfl⟩
  · rw [show zup G i true j = G j from if_neg e, if_neg e]
    exact h j hj
theorem zTc_f {sets : Nat → Int32} {L : Nat → Nat} {G : Nat → Bool} {m i : Nat} (h : zTc sets L G m) (hi : i < m) (hG : G i = false) : sets i = nI (L i) := by
  rw [(h i hi).2, hG, if_neg (by decide)]
theorem zTc_t {sets : Nat → Int32} {L : Nat → Nat} {G : Nat → Bool} {m i : Nat} (h : zTc sets L G m) (hi : i < m) (hG : G i = true) : sets i = -1 := by
  rw [(h i hi).2, hG, if_pos rfl]
theorem zpow_shl {v : Nat} (hv : v < 4) : (1 : Int32) <<< (nI v &&& 31) = nI (2 ^ v) := by
  have h : ∀ v : Fin 4, (1 : Int32) <<< (nI v.val &&& 31) = nI (2 ^ v.val) := by decide
  exact h ⟨v, hv⟩
theorem zX10_v15 (K : Nat) (hK : 5 < K) {sets : Nat → Int32} {L : Nat → Nat} {G : Nat → Bool} {m : Nat} (hm : m ≤ 5) (h : zTc sets L G m) (r2 : Int32 → (Nat → Int32) → Option (Bool × (Nat → Int32))) {v : Nat} (hv : v < 4) :
    (∃ i sets', zaV1 L G m i v ∧ fX10_takeVariable_15 K (nI m) r2 K (nI v) (nI 0) (-1) (nI 0) sets = some (true, sets') ∧ zTc sets' (zup L i (L i ^^^ 2 ^ v)) G m) ∨ (fX10_takeVariable_15 K (nI m) r2 K (nI v) (nI 0) (-1) (nI 0) sets = r2 (nI (v + 1)) sets ∧ ∀ i, ¬ zaV1 L G m i v) := by
  have e1 : (1 : Int32) = nI 1 := rfl
  obtain ⟨x4, ⟨h1, h2⟩, e⟩ := z_forD (F := fun k i (x4 : Int32) => fX10_takeVariable_15 K (nI m) r2 k (nI v) (nI (zcnt (fun i => !G i && (L i).testBit v) i)) x4 (nI i) sets) (n := m)
    (inv := fun i x4 => zcnt (fun i => !G i && (L i).testBit v) i ≤ 5 ∧ (1 ≤ zcnt (fun i => !G i && (L i).testBit v) i → ∃ l, x4 = nI l ∧ l < i ∧ G l = false ∧ (L l).testBit v = true)) (D := fun x4 => (if nI (zcnt (fun i => !G i && (L i).testBit v) m) = (1 : Int32) then ((fX6_at 5 sets x4).bind fun q80 => (fX6_put 5 x4 (q80 &&& (((1 : Int32) <<< (nI v &&& 31)) ^^^ (-1 : Int32))) sets).bind fun q89 => some (true, q89)) else (r2 (nI v + (1 : Int32)) sets)))
    (by
      intro k i x4 hi hinv
      obtain ⟨i1, i2⟩ := hinv
      have hcl := zcnt_le (fun i => !G i && (L i).testBit v) (i + 1)
      have hs : zcnt (fun i => !G i && (L i).testBit v) (i + 1) = zcnt (fun i => !G i && (L i).testBit v) i + (!G i && (L i).testBit v).toNat := rfl
      obtain ⟨g1, g2⟩ := h i hi
      have st : ∀ x4, fX10_takeVariable_15 K (nI m) r2 (k + 1) (nI v) (nI (zcnt (fun i => !G i && (L i).testBit v) i)) x4 (nI i) sets = _ := fun x4 => by
        rw [fX10_takeVariable_15, if_neg (by rw [zi_le (by omega) (by omega)]; omega), zX6_at sets (show i < 5 by omega) (by omega), Option.bind_some, Option.bind_some, zpow_shl hv]
      cases hG : G i
      · cases hb : (L i).testBit v
        · refine ⟨x4, ⟨by omega, ?_⟩, ?_⟩
          · intro q
            rw [hs, hG, hb] at q
            obtain ⟨l, l1, l2, l3⟩ := i2 q
            exact ⟨l, l1, by omega, l3⟩
          · show fX10_takeVariable_15 K (nI m) r2 (k + 1) (nI v) (nI (zcnt (fun i => !G i && (L i).testBit v) i)) x4 (nI i) sets = _
            rw [st, hs, hG, hb, zTc_f h hi hG, if_neg (zi_m1 (by omega)), if_pos (by rw [zx_and ⟨L i, g1⟩ ⟨v, hv⟩]; exact hb)]
            unfold fX10_takeVariable_57
            rw [e1, zi_add]
            rfl
        · refine ⟨nI i, ⟨by omega, ?_⟩, ?_⟩
          · intro _; exact ⟨i, rfl, by omega, hG, hb⟩
          · show fX10_takeVariable_15 K (nI m) r2 (k + 1) (nI v) (nI (zcnt (fun i => !G i && (L i).testBit v) i)) x4 (nI i) sets = _
            rw [st, hs, hG, hb, zTc_f h hi hG, if_neg (zi_m1 (by omega)), if_neg (by rw [zx_and ⟨L i, g1⟩ ⟨v, hv⟩]; show ¬ (L i).testBit v = false; rw [hb]; decide)]
            unfold fX10_takeVariable_57
            rw [e1, zi_add, zi_add]
            rfl
      · refine ⟨x4, ⟨by omega, ?_⟩, ?_⟩
        · intro q
          rw [hs, hG] at q
          obtain ⟨l, l1, l2, l3⟩ := i2 q
          exact ⟨l, l1, by omega, l3⟩
        · show fX10_takeVariable_15 K (nI m) r2 (k + 1) (nI v) (nI (zcnt (fun i => !G i && (L i).testBit v) i)) x4 (nI i) sets = _
          rw [st, hs, hG, zTc_t h hi hG, if_pos rfl]
          unfold fX10_takeVariable_57
          rw [e1, zi_add]
          rfl)
    (by
      intro k x4 _
      show fX10_takeVariable_15 K (nI m) r2 (k + 1) (nI v) (nI (zcnt (fun i => !G i && (L i).testBit v) m)) x4 (nI m) sets = _
      rw [fX10_takeVariable_15, if_pos (show nI m ≤ nI m by rw [zi_le (by omega) (by omega)]; omega)])
    m K 0 (-1) (by omega) ⟨Nat.zero_le _, fun q => absurd q (by show ¬ 1 ≤ 0; decide)⟩ (by omega)
  have e' : fX10_takeVariable_15 K (nI m) r2 K (nI v) (nI 0) (-1) (nI 0) sets = (if nI (zcnt (fun i => !G i && (L i).testBit v) m) = (1 : Int32) then ((fX6_at 5 sets x4).bind fun q80 => (fX6_put 5 x4 (q80 &&& (((1 : Int32) <<< (nI v &&& 31)) ^^^ (-1 : Int32))) sets).bind fun q89 => some (true, q89)) else (r2 (nI v + (1 : Int32)) sets)) := e
  rw [e']
  by_cases hc : zcnt (fun i => !G i && (L i).testBit v) m = 1
  · left
    obtain ⟨l, l1, l2, l3, l4⟩ := h2 (by omega)
    obtain ⟨g1, g2⟩ := h l l2
    have hb := zx_less ⟨L l, g1⟩ ⟨v, hv⟩ l4
    refine ⟨l, upd sets l (nI (L l ^^^ 2 ^ v)), ⟨l2, l3, l4, ?_⟩, ?_, zTc_V h l3 ?_⟩
    · intro j q1 q2 q3
      rw [← Bool.not_eq_true]
      intro q4
      have := (zcnt_two (p := fun i => !G i && (L i).testBit v) l2 (by simp [l3, l4])).mpr ⟨j, q1, q2, by simp [q3, q4]⟩
      omega
    · rw [hc, if_pos (show nI 1 = 1 from rfl), l1, zX6_at sets (show l < 5 by omega) (by omega), Option.bind_some, zTc_f h l2 l3, zpow_shl hv, hb.2.1, zX6_put _ sets (show l < 5 by omega) (by omega), Option.bind_some]
    · have := hb.1
      exact Nat.lt_trans this g1
  · right
    refine ⟨by rw [if_neg (by rw [e1, zi_eq (by omega) (by omega)]; exact hc), e1, zi_add], ?_⟩
    rintro i ⟨q1, q2, q3, q4⟩
    apply hc
    have p1 : 1 ≤ zcnt (fun i => !G i && (L i).testBit v) m := zcnt_pos.mpr ⟨i, q1, by simp [q2, q3]⟩
    have p2 : ¬ 2 ≤ zcnt (fun i => !G i && (L i).testBit v) m := by
      rw [zcnt_two (p := fun i => !G i && (L i).testBit v) q1 (by simp [q2, q3])]
      rintro ⟨j, r1, r2, r3⟩
      simp only [Bool.and_eq_true, Bool.not_eq_true'] at r3
      rw [q4 j r1 r2 r3.1] at r3
      exact absurd r3.2 (by decide)
    omega
theorem zX10_takeVariable (K : Nat) (hK : 5 < K) {sets : Nat → Int32} {L : Nat → Nat} {G : Nat → Bool} {m : Nat} (hm : m ≤ 5) (h : zTc sets L G m) :
    (∃ i v sets', v < 4 ∧ zaV1 L G m i v ∧ fX10_takeVariable K (nI m) sets = some (true, sets') ∧ zTc sets' (zup L i (L i ^^^ 2 ^ v)) G m) ∨ (fX10_takeVariable K (nI m) sets = some (false, sets) ∧ ∀ i v, v < 4 → ¬ zaV1 L G m i v) := by
  unfold fX10_takeVariable
  obtain ⟨x, hx, e⟩ := z_for (F := fun k v (_ : Unit) => fX10_takeVariable_2 K (nI m) k (nI v) sets) (n := 4) (inv := fun v _ => ∀ u, u < v → ∀ i, ¬ zaV1 L G m i u)
    (post := fun x => (∃ i v sets', v < 4 ∧ zaV1 L G m i v ∧ x = (true, sets') ∧ zTc sets' (zup L i (L i ^^^ 2 ^ v)) G m) ∨ (x = (false, sets) ∧ ∀ i v, v < 4 → ¬ zaV1 L G m i v))
    (by
      intro k v _ hv hinv
      have st : fX10_takeVariable_2 K (nI m) (k + 1) (nI v) sets = fX10_takeVariable_15 K (nI m) (fX10_takeVariable_2 K (nI m) k) K (nI v) (nI 0) (-1) (nI 0) sets := by
        rw [fX10_takeVariable_2, if_neg (by rw [show (4 : Int32) = nI 4 from rfl, zi_le (by omega) (by omega)]; omega)]; rfl
      rcases zX10_v15 K hK hm h (fX10_takeVariable_2 K (nI m) k) hv with ⟨i, sets', a1, a2, a3⟩ | ⟨a1, a2⟩
      · right
        exact ⟨_, Or.inl ⟨i, v, sets', hv, a1, rfl, a3⟩, by
          show fX10_takeVariable_2 K (nI m) (k + 1) (nI v) sets = _
          rw [st, a2]⟩
      · left
        refine ⟨(), ?_, ?_⟩
        · intro u hu i
          rcases Nat.lt_or_ge u v with q | q
          · exact hinv u q i
          · rw [show u = v by omega]; exact a2 i
        · show fX10_takeVariable_2 K (nI m) (k + 1) (nI v) sets = _
          rw [st, a1])
    (by
      intro k _ hinv
      refine ⟨_, Or.inr ⟨rfl, fun i v hv => hinv v hv i⟩, ?_⟩
      show fX10_takeVariable_2 K (nI m) (k + 1) (nI 4) sets = _
      rw [fX10_takeVariable_2, if_pos (by decide)])
    4 K 0 () (by omega) (fun u hu => by omega) (by omega)
  have e' : fX10_takeVariable_2 K (nI m) K 0 sets = some x := e
  rcases hx with ⟨i, v, sets', a1, a2, a3, a4⟩ | ⟨a1, a2⟩
  · exact Or.inl ⟨i, v, sets', a1, a2, by rw [e', a3], a4⟩
  · exact Or.inr ⟨by rw [e', a1], a2⟩
theorem zX10_isSpare (K : Nat) (hK : 5 < K) {sets : Nat → Int32} {L : Nat → Nat} {G : Nat → Bool} {m : Nat} (hm : m ≤ 5) (h : zTc sets L G m) {i : Nat} (hi : i < m) (hG : G i = false) : ∃ b, fX10_isSpare K sets (nI i) (nI m) = some b ∧ (b = true ↔ zaA1 L G m i) := by
  have e1 : (1 : Int32) = nI 1 := rfl
  obtain ⟨g1, g2⟩ := h i hi
  unfold fX10_isSpare
  rw [zX6_at sets (show i < 5 by omega) (by omega), Option.bind_some, zTc_f h hi hG]
  obtain ⟨x, hx, e⟩ := z_for (F := fun k j (_ : Unit) => fX10_isSpare_12 K sets (nI i) (nI m) k (nI (L i)) (nI j)) (n := m) (inv := fun j _ => ∀ u, u < j → u ≠ i → G u = false → ¬ zsub (L i) (L u))
    (post := fun b => b = true ↔ zaA1 L G m i)
    (by
      intro k j _ hj hinv
      obtain ⟨j1, j2⟩ := h j hj
      have next : (¬ (j ≠ i ∧ G j = false ∧ zsub (L i) (L j))) → fX10_isSpare_12 K sets (nI i) (nI m) (k + 1) (nI (L i)) (nI j) = fX10_isSpare_12 K sets (nI i) (nI m) k (nI (L i)) (nI (j + 1)) := by
        intro hn
        rw [fX10_isSpare_12, if_neg (by rw [zi_le (by omega) (by omega)]; omega), zX6_at sets (show j < 5 by omega) (by omega), Option.bind_some, Option.bind_some]
        unfold fX10_isSpare_55
        rw [show nI j + (1 : Int32) = nI (j + 1) from (nI_succ j).symm]
        by_cases a : j = i
        · rw [if_pos (by rw [a])]
        · rw [if_neg (by rw [zi_eq (by omega) (by omega)]; exact a)]
          cases b : G j
          · rw [zTc_f h hj b, if_neg (zi_m1 (by omega)), if_neg (by rw [zx_subset g1 j1]; exact fun q => hn ⟨a, b, q⟩)]
          · rw [zTc_t h hj b, if_pos rfl]
      by_cases hc : j ≠ i ∧ G j = false ∧ zsub (L i) (L j)
      · right
        refine ⟨true, ⟨fun _ => ⟨hi, hG, Or.inr ⟨j, hj, hc⟩⟩, fun _ => rfl⟩, ?_⟩
        show fX10_isSpare_12 K sets (nI i) (nI m) (k + 1) (nI (L i)) (nI j) = _
        rw [fX10_isSpare_12, if_neg (by rw [zi_le (by omega) (by omega)]; omega), zX6_at sets (show j < 5 by omega) (by omega), Option.bind_some, Option.bind_some, zTc_f h hj hc.2.1, if_neg (by rw [zi_eq (by omega) (by omega)]; exact hc.1), if_neg (zi_m1 (by omega)), if_pos (by rw [zx_subset g1 j1]; exact hc.2.2)]
      · left
        refine ⟨(), ?_, next hc⟩
        intro u hu h1 h2 h3
        rcases Nat.lt_or_ge u j with q | q
        · exact hinv u q h1 h2 h3
        · rw [show u = j by omega] at h1 h2 h3
          exact hc ⟨h1, h2, h3⟩)
    (by
      intro k _ hinv
      have hend : zaA1 L G m i ↔ L i = 0 := by
        constructor
        · rintro ⟨_, _, q | ⟨j, q1, q2, q3, q4⟩⟩
          · exact q
          · exact absurd q4 (hinv j q1 q2 q3)
        · intro q; exact ⟨hi, hG, Or.inl q⟩
      refine ⟨decide (L i = 0), by rw [hend, decide_eq_true_eq], ?_⟩
      show fX10_isSpare_12 K sets (nI i) (nI m) (k + 1) (nI (L i)) (nI m) = _
      rw [fX10_isSpare_12, if_pos (by rw [zi_le (by omega) (by omega)]; omega)]
      by_cases q : L i = 0
      · rw [if_pos (by rw [q]; rfl), decide_eq_true q]
      · rw [if_neg (by rw [show (0 : Int32) = nI 0 from rfl, zi_eq (by omega) (by omega)]; exact q), decide_eq_false q])
    m K 0 () (by omega) (fun u hu => by omega) (by omega)
  exact ⟨x, e, hx⟩
theorem zX10_takeAtom (K : Nat) (hK : 5 < K) {sets : Nat → Int32} {L : Nat → Nat} {G : Nat → Bool} {m : Nat} (hm : m ≤ 5) (h : zTc sets L G m) :
    (∃ i sets', zaA1 L G m i ∧ fX10_takeAtom K (nI m) sets = some (true, sets') ∧ zTc sets' L (zup G i true) m) ∨ (fX10_takeAtom K (nI m) sets = some (false, sets) ∧ ∀ i, ¬ zaA1 L G m i) := by
  have e1 : (1 : Int32) = nI 1 := rfl
  unfold fX10_takeAtom
  obtain ⟨x, hx, e⟩ := z_for (F := fun k i (_ : Unit) => fX10_takeAtom_2 K (nI m) k (nI i) sets) (n := m) (inv := fun i _ => ∀ u, u < i → ¬ zaA1 L G m u)
    (post := fun x => (∃ i sets', zaA1 L G m i ∧ x = (true, sets') ∧ zTc sets' L (zup G i true) m) ∨ (x = (false, sets) ∧ ∀ i, ¬ zaA1 L G m i))
    (by
      intro k i _ hi hinv
      obtain ⟨g1, g2⟩ := h i hi
      have nx : ¬ zaA1 L G m i → ∀ u, u < i + 1 → ¬ zaA1 L G m u := by
        intro hn u hu
        rcases Nat.lt_or_ge u i with q | q
        · exact hinv u q
        · rw [show u = i by omega]; exact hn
      cases hG : G i
      · obtain ⟨b, eb, hb⟩ := zX10_isSpare K hK hm h hi hG
        cases b
        · left
          refine ⟨(), nx (fun q => absurd (hb.mpr q) (by decide)), ?_⟩
          show fX10_takeAtom_2 K (nI m) (k + 1) (nI i) sets = _
          rw [fX10_takeAtom_2, if_neg (by rw [zi_le (by omega) (by omega)]; omega), zX6_at sets (show i < 5 by omega) (by omega), Option.bind_some, zTc_f h hi hG, if_neg (zi_m1 (by omega)), eb, Option.bind_some, if_pos (show bI false = 0 from rfl)]
          unfold fX10_takeAtom_39
          rw [e1, zi_add]
        · right
          refine ⟨_, Or.inl ⟨i, upd sets i (-1), hb.mp rfl, rfl, zTc_A h⟩, ?_⟩
          show fX10_takeAtom_2 K (nI m) (k + 1) (nI i) sets = _
          rw [fX10_takeAtom_2, if_neg (by rw [zi_le (by omega) (by omega)]; omega), zX6_at sets (show i < 5 by omega) (by omega), Option.bind_some, zTc_f h hi hG, if_neg (zi_m1 (by omega)), eb, Option.bind_some, if_neg (show ¬ bI true = 0 by decide), zX6_put _ sets (show i < 5 by omega) (by omega), Option.bind_some]
      · left
        refine ⟨(), nx (fun q => by have := q.2.1; rw [hG] at this; exact absurd this (by decide)), ?_⟩
        show fX10_takeAtom_2 K (nI m) (k + 1) (nI i) sets = _
        rw [fX10_takeAtom_2, if_neg (by rw [zi_le (by omega) (by omega)]; omega), zX6_at sets (show i < 5 by omega) (by omega), Option.bind_some, zTc_t h hi hG, if_pos rfl]
        unfold fX10_takeAtom_39
        rw [e1, zi_add])
    (by
      intro k _ hinv
      refine ⟨_, Or.inr ⟨rfl, fun i q => hinv i q.1 q⟩, ?_⟩
      show fX10_takeAtom_2 K (nI m) (k + 1) (nI m) sets = _
      rw [fX10_takeAtom_2, if_pos (by rw [zi_le (by omega) (by omega)]; omega)])
    m K 0 () (by omega) (fun u hu => by omega) (by omega)
  have e' : fX10_takeAtom_2 K (nI m) K 0 sets = some x := e
  rcases hx with ⟨i, sets', a1, a2, a3⟩ | ⟨a1, a2⟩
  · exact Or.inl ⟨i, sets', a1, by rw [e', a2], a3⟩
  · exact Or.inr ⟨by rw [e', a1], a2⟩
