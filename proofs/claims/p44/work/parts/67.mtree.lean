/-! the reference takes a query apart -/
def zTr (left gone : Nat → Int32) (L : Nat → Nat) (G : Nat → Bool) (m : Nat) : Prop := ∀ i, i < m → L i < 16 ∧ left i = nI (L i) ∧ gone i = bI (G i)
theorem zTr_V {left gone : Nat → Int32} {L : Nat → Nat} {G : Nat → Bool} {m i : Nat} (h : zTr left gone L G m) {x : Nat} (hx : x < 16) : zTr (upd left i (nI x)) gone (zup L i x) G m := by
  intro j hj
  obtain ⟨h1, h2, h3⟩ := h j hj
  rw [zu_at]
  by_cases e : j = i
  · rw [show zup L i x j = x from if_pos e, if_pos e]; exact ⟨hx, rfl, h3⟩
  · rw [show zup L i x j = L j from if_neg e, if_neg e]; exact ⟨h1, h2, h3⟩
theorem zTr_A {left gone : Nat → Int32} {L : Nat → Nat} {G : Nat → Bool} {m i : Nat} (h : zTr left gone L G m) : zTr left (upd gone i 1) L (zup G i true) m := by
  intro j hj
  obtain ⟨h1, h2, h3⟩ := h j hj
  rw [zu_at]
  by_cases e : j = i
  · rw [show zup G i true j = true from if_pos e, if_pos e]; exact ⟨h1, h2, rfl⟩
  · rw [show zup G i true j = G j from if_neg e, if_neg e]; exact ⟨h1, h2, h3⟩
theorem zX12_standing (K : Nat) (hK : 5 < K) {now : Nat → Int32} {s : Nat → Nat} (h : zM now s) {q : Nat} (hq : q < 4) (hQ : zQ s q) {left gone : Nat → Int32} {L : Nat → Nat} {G : Nat → Bool} (hT : zTr left gone L G (zqn s q)) {v : Nat} (hv : v < 4) :
    fX12_standing K now left gone (nI q) (nI (2 ^ v)) = some (nI (zcnt (fun i => !G i && (L i).testBit v) (zqn s q))) := by
  have hn := hQ.1
  unfold fX12_standing
  refine z_forE (F := fun k i (_ : Unit) => fX12_standing_5 K now left gone (nI q) (nI (2 ^ v)) k (nI (zcnt (fun i => !G i && (L i).testBit v) i)) (nI i)) (n := zqn s q) (inv := fun _ _ => True) ?_ ?_ (zqn s q) K 0 () (by omega) trivial (by omega)
  · intro k i _ hi _
    left
    refine ⟨(), trivial, ?_⟩
    obtain ⟨h1, h2, h3⟩ := hT i hi
    have ii : inB (nI i) 5 = true := by rw [zi_inB (by omega)]; omega
    show fX12_standing_5 K now left gone (nI q) (nI (2 ^ v)) (k + 1) (nI (zcnt (fun i => !G i && (L i).testBit v) i)) (nI i) = fX12_standing_5 K now left gone (nI q) (nI (2 ^ v)) k (nI (zcnt (fun i => !G i && (L i).testBit v) i + (!G i && (L i).testBit v).toNat)) (nI (i + 1))
    rw [fX12_standing_5, zX12_atoms h hq, Option.bind_some, if_neg (by rw [zi_le (by omega) (by omega)]; omega), if_pos ii, if_pos ii, zi_clamp (by omega), h2, h3]
    unfold fX12_standing_42 fX12_standing_43
    rw [← nI_succ, show (0 : Int32) = nI 0 from rfl, show (1 : Int32) = nI 1 from rfl, zi_add, zi_add]
    cases G i
    · rw [if_pos (show bI false = nI 0 from rfl)]
      cases hb : (L i).testBit v
      · rw [if_pos (show (nI (L i) &&& nI (2 ^ v)) = nI 0 from (zx_and ⟨L i, h1⟩ ⟨v, hv⟩).mpr hb)]; rfl
      · rw [if_neg (show ¬ (nI (L i) &&& nI (2 ^ v)) = nI 0 from fun q => by
          have := (zx_and ⟨L i, h1⟩ ⟨v, hv⟩).mp q
          rw [show (L i).testBit v = true from hb] at this; exact absurd this (by decide))]; rfl
    · rw [if_neg (show ¬ bI true = nI 0 by decide)]; rfl
  · intro k _ _
    show fX12_standing_5 K now left gone (nI q) (nI (2 ^ v)) (k + 1) (nI (zcnt (fun i => !G i && (L i).testBit v) (zqn s q))) (nI (zqn s q)) = _
    rw [fX12_standing_5, zX12_atoms h hq, Option.bind_some, if_pos (by rw [zi_le (by omega) (by omega)]; omega)]
theorem zX12_goes (K : Nat) (hK : 5 < K) {now : Nat → Int32} {s : Nat → Nat} (h : zM now s) {q : Nat} (hq : q < 4) (hQ : zQ s q) {left gone : Nat → Int32} {L : Nat → Nat} {G : Nat → Bool} (hT : zTr left gone L G (zqn s q)) {i : Nat} (hi : i < zqn s q) (hG : G i = false) :
    ∃ b, fX12_goes K now left gone (nI q) (nI i) = some b ∧ (b = true ↔ zaA1 L G (zqn s q) i) := by
  have hn := hQ.1
  obtain ⟨g1, g2, g3⟩ := hT i hi
  have bi : ∀ b : Bool, (if bI b = (0 : Int32) then some false else if bI b = 1 then some true else none) = some b := by intro b; cases b <;> rfl
  have ii : inB (nI i) 5 = true := by rw [zi_inB (by omega)]; omega
  have ci := zi_clamp (show i < 2147483648 by omega)
  have main : ∀ b0 : Bool, ∃ b, fX12_goes_14 K now left gone (nI q) (nI i) (bI b0) = some b ∧ (b = true ↔ b0 = true ∨ ∃ j, j < zqn s q ∧ j ≠ i ∧ G j = false ∧ zsub (L i) (L j)) := by
    intro b0
    unfold fX12_goes_14
    obtain ⟨b, hb, e⟩ := z_for (F := fun k j (b : Bool) => fX12_goes_18 K now left gone (nI q) (nI i) k (bI b) (nI j)) (n := zqn s q) (inv := fun j b => b = true ↔ b0 = true ∨ ∃ u, u < j ∧ u ≠ i ∧ G u = false ∧ zsub (L i) (L u))
      (post := fun b => b = true ↔ b0 = true ∨ ∃ j, j < zqn s q ∧ j ≠ i ∧ G j = false ∧ zsub (L i) (L j))
      (by
        intro k j b hj hinv
        left
        obtain ⟨j1, j2, j3⟩ := hT j hj
        have ij : inB (nI j) 5 = true := by rw [zi_inB (by omega)]; omega
        have cj := zi_clamp (show j < 2147483648 by omega)
        refine ⟨b || decide (j ≠ i ∧ G j = false ∧ (nI (L i) &&& (nI (L j) ^^^ (-1 : Int32))) = 0), ?_, ?_⟩
        · rw [Bool.or_eq_true, hinv, decide_eq_true_eq, zx_subset g1 j1]
          constructor
          · rintro ((q | ⟨u, q1, q2⟩) | q)
            · exact Or.inl q
            · exact Or.inr ⟨u, by omega, q2⟩
            · exact Or.inr ⟨j, by omega, q⟩
          · rintro (q | ⟨u, q1, q2⟩)
            · exact Or.inl (Or.inl q)
            · rcases Nat.lt_or_ge u j with r | r
              · exact Or.inl (Or.inr ⟨u, r, q2⟩)
              · rw [show u = j by omega] at q2; exact Or.inr q2
        · show fX12_goes_18 K now left gone (nI q) (nI i) (k + 1) (bI b) (nI j) = _
          rw [fX12_goes_18, zX12_atoms h hq, Option.bind_some, if_neg (by rw [zi_le (by omega) (by omega)]; omega)]
          unfold fX12_goes_67 fX12_goes_71 fX12_goes_72
          rw [if_pos ij, if_pos ij, if_pos ii, cj, ci, g2, j2, j3, ← nI_succ]
          cases b
          · rw [if_pos (show bI false = 0 from rfl), Bool.false_or]
            by_cases a : j = i
            · rw [if_pos (by rw [a]), decide_eq_false (fun q => q.1 a)]; rfl
            · rw [if_neg (by rw [zi_eq (by omega) (by omega)]; exact a)]
              cases hGj : G j
              · rw [if_pos (show bI false = 0 from rfl)]
                by_cases c : (nI (L i) &&& (nI (L j) ^^^ (-1 : Int32))) = 0
                · rw [if_pos c, decide_eq_true ⟨a, rfl, c⟩]; rfl
                · rw [if_neg c, decide_eq_false (fun q => c q.2.2)]; rfl
              · rw [if_neg (show ¬ bI true = 0 by decide), decide_eq_false (fun q => absurd q.2.1 (by decide))]; rfl
          · rw [if_neg (show ¬ bI true = 0 by decide), Bool.true_or]; rfl)
      (by
        intro k b hinv
        refine ⟨b, hinv, ?_⟩
        show fX12_goes_18 K now left gone (nI q) (nI i) (k + 1) (bI b) (nI (zqn s q)) = _
        rw [fX12_goes_18, zX12_atoms h hq, Option.bind_some, if_pos (by rw [zi_le (by omega) (by omega)]; omega), bi])
      (zqn s q) K 0 b0 (by omega) ⟨Or.inl, fun q => by
        rcases q with q | ⟨u, q, _⟩
        · exact q
        · omega⟩ (by omega)
    exact ⟨b, e, hb⟩
  unfold fX12_goes
  rw [if_pos ii, ci, g2]
  by_cases e0 : L i = 0
  · rw [if_pos (by rw [e0]; rfl)]
    obtain ⟨b, eb, hb⟩ := main true
    refine ⟨b, eb, ?_⟩
    rw [hb]
    exact ⟨fun _ => ⟨hi, hG, Or.inl e0⟩, fun _ => Or.inl rfl⟩
  · rw [if_neg (by rw [show (0 : Int32) = nI 0 from rfl, zi_eq (by omega) (by omega)]; exact e0)]
    obtain ⟨b, eb, hb⟩ := main false
    refine ⟨b, eb, ?_⟩
    rw [hb]
    constructor
    · rintro (q | q)
      · exact absurd q (by decide)
      · exact ⟨hi, hG, Or.inr q⟩
    · rintro ⟨_, _, q | q⟩
      · exact absurd q e0
      · exact Or.inr q
theorem zstand_V {L : Nat → Nat} {G : Nat → Bool} {m i v : Nat} (hi : i < m) (hG : G i = false) (hb : (L i).testBit v = true) : zcnt (fun i => !G i && (L i).testBit v) m ≤ 1 ↔ zaV1 L G m i v := by
  have h2 := zcnt_two (p := fun i => !G i && (L i).testBit v) hi (by simp [hG, hb])
  constructor
  · intro q
    refine ⟨hi, hG, hb, ?_⟩
    intro j q1 q2 q3
    rw [← Bool.not_eq_true]
    intro q4
    have := h2.mpr ⟨j, q1, q2, by simp [q3, q4]⟩
    omega
  · rintro ⟨_, _, _, q⟩
    apply Classical.byContradiction
    intro g
    obtain ⟨j, q1, q2, q3⟩ := h2.mp (by omega)
    simp only [Bool.and_eq_true, Bool.not_eq_true'] at q3
    rw [q j q1 q2 q3.1] at q3
    exact absurd q3.2 (by decide)
