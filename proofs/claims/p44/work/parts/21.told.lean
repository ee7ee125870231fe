/-! the reference: rows for an atom, the value told -/
def zdd (pl : Nat → Nat) (c : Nat) (val : Nat → Nat) : Nat → Nat := fun v => if zany (fun m => decide (pl m = v)) c = true then 8 + val v else 0
def zMp (place : Nat → Int32) (pl : Nat → Nat) (c : Nat) : Prop := ∀ m, m < c → place m = nI (pl m) ∧ pl m < 4
theorem zX12_valueIn {k j : Nat} (hk : k < 512) (hj : j < 3) : fX12_valueIn (nI k) (nI j) = some (nI (zcol k j)) := by
  have : j = 0 ∨ j = 1 ∨ j = 2 := by omega
  have hs : (6 - 3 * j) % 32 = 6 - 3 * j := by omega
  simp (disch := omega) only [fX12_valueIn, zi_lit, zi_mul, zi_sub, zi_and, zn_and7, zn_and31, hs, zi_shrP]
  unfold zcol
  rcases this with e | e | e <;> subst e <;> rfl
def zali (a : zA) (k m j : Nat) : Bool := !decide (zaV a m = zaV a j) || decide (zcol k m = zcol k j)
def zpn (a : zA) (pl val : Nat → Nat) (k m j : Nat) : Bool := !decide (pl m = zaV a j) || decide (val (zaV a j) = zcol k j)
theorem zX12_isRowFor (K : Nat) (hK : 4 < K) {now : Nat → Int32} {s : Nat → Nat} (h : zM now s) {value : Nat → Int32} {val : Nat → Nat} (hval : zMv value val) {place : Nat → Int32} {pl : Nat → Nat} {c : Nat} (hc : c ≤ 4) (hpl : zMp place pl c) {p : Nat} (hp : p + 3 < 2780) (ha : zaOK (zat s p)) {k : Nat} (hk : k < 512) :
    fX12_isRowFor K now value place (nI p) (nI k) (nI c) = some (zall (fun j => zall (fun m => zali (zat s p) k m j) j && zall (fun m => zpn (zat s p) pl val k m j) c) (s (1 + s p))) := by
  unfold fX12_isRowFor
  have ht : s p < 5 := ha.1
  have hw : s (1 + s p) ≤ 3 := ha.2.2.1
  have hw1 : 1 ≤ s (1 + s p) := ha.2.1
  have hvv : ∀ j, j < 3 → s (p + 1 + j) = zaV (zat s p) j := fun j hj => (zat_V s p j hj).symm
  -- the loop over what is chosen
  have L83 : ∀ (r : Int32 → Option Bool) j, j < 3 → fX12_isRowFor_83 K now value place (nI p) (nI k) (nI c) r K (nI j) (nI (zaV (zat s p) j)) (nI 0) = if zall (fun m => zpn (zat s p) pl val k m j) c = true then r (nI (j + 1)) else some false := by
    intro r j hj
    have hv := zaV_lt ha hj
    refine z_forE (F := fun q i (_ : Unit) => fX12_isRowFor_83 K now value place (nI p) (nI k) (nI c) r q (nI j) (nI (zaV (zat s p) j)) (nI i)) (n := c) (inv := fun i _ => ∀ m, m < i → zpn (zat s p) pl val k m j = true) ?_ ?_ c K 0 () (by omega) (by intro m hm; omega) (by omega)
    · intro q i _ hi hinv
      obtain ⟨e1, e2⟩ := hpl i hi
      simp (disch := omega) only [fX12_isRowFor_83, fX12_isRowFor_119, zi_lit, zi_le, zi_inB, zi_clamp, e1, zi_eq, (hval _ hv).1, zX12_valueIn hk hj, Option.bind_some, zi_add]
      rw [if_neg (by omega), if_pos (by omega)]
      by_cases h1 : pl i = zaV (zat s p) j
      · rw [if_pos h1, if_pos (by omega)]
        have h8 := (hval _ hv).2
        have hcl : zcol k j < 8 := by unfold zcol; omega
        simp (disch := omega) only [zi_eq]
        by_cases h2 : val (zaV (zat s p) j) = zcol k j
        · left
          refine ⟨(), ?_, if_pos h2⟩
          intro m hm
          rcases Nat.lt_or_ge m i with g | g
          · exact hinv m g
          · unfold zpn; simp [h2]
        · right
          rw [if_neg h2, if_neg]
          intro g
          have := zall_iff.mp g i hi
          unfold zpn at this
          simp [h1, h2] at this
      · left
        refine ⟨(), ?_, if_neg h1⟩
        intro m hm
        rcases Nat.lt_or_ge m i with g | g
        · exact hinv m g
        · have : m = i := by omega
          subst this; unfold zpn; simp [h1]
    · intro q _ hinv
      simp (disch := omega) only [fX12_isRowFor_83, zi_lit, zi_le, zi_add]
      rw [if_pos (by omega), if_pos (zall_iff.mpr hinv)]
  have L34 : ∀ (r : Int32 → Option Bool) j, j < 3 → fX12_isRowFor_34 K now value place (nI p) (nI k) (nI c) r K (nI j) (nI (zaV (zat s p) j)) (nI 0) = if zall (fun m => zali (zat s p) k m j) j = true then (if zall (fun m => zpn (zat s p) pl val k m j) c = true then r (nI (j + 1)) else some false) else some false := by
    intro r j hj
    have hv := zaV_lt ha hj
    refine z_forE (F := fun q i (_ : Unit) => fX12_isRowFor_34 K now value place (nI p) (nI k) (nI c) r q (nI j) (nI (zaV (zat s p) j)) (nI i)) (n := j) (inv := fun i _ => ∀ m, m < i → zali (zat s p) k m j = true) ?_ ?_ j K 0 () (by omega) (by intro m hm; omega) (by omega)
    · intro q i _ hi hinv
      have hvi := zaV_lt ha (show i < 3 by omega)
      have hc1 : zcol k i < 8 := by unfold zcol; omega
      have hc2 : zcol k j < 8 := by unfold zcol; omega
      simp (disch := omega) only [fX12_isRowFor_34, fX12_isRowFor_74, zi_lit, zi_le, zi_inB, zi_clamp, zi_add, (h (p + 1 + i) (by omega)).1, hvv i (by omega), zi_eq, zX12_valueIn hk hj, zX12_valueIn hk (show i < 3 by omega), Option.bind_some]
      rw [if_neg (by omega), if_pos (by omega)]
      by_cases h1 : zaV (zat s p) i = zaV (zat s p) j
      · rw [if_pos h1]
        by_cases h2 : zcol k i = zcol k j
        · left
          refine ⟨(), ?_, if_pos h2⟩
          intro m hm
          rcases Nat.lt_or_ge m i with g | g
          · exact hinv m g
          · have : m = i := by omega
            subst this; unfold zali; simp [h2]
        · right
          rw [if_neg h2, if_neg]
          intro g
          have := zall_iff.mp g i hi
          unfold zali at this
          simp [h1, h2] at this
      · left
        refine ⟨(), ?_, if_neg h1⟩
        intro m hm
        rcases Nat.lt_or_ge m i with g | g
        · exact hinv m g
        · have : m = i := by omega
          subst this; unfold zali; simp [h1]
    · intro q _ hinv
      simp (disch := omega) only [fX12_isRowFor_34, zi_le]
      rw [if_pos (by omega), if_pos (zall_iff.mpr hinv)]
      exact L83 r j hj
  refine z_forE (F := fun q i (_ : Unit) => fX12_isRowFor_3 K now value place (nI p) (nI k) (nI c) q (nI i)) (n := s (1 + s p)) (inv := fun i _ => ∀ j, j < i → (zall (fun m => zali (zat s p) k m j) j && zall (fun m => zpn (zat s p) pl val k m j) c) = true) ?_ ?_ (s (1 + s p)) K 0 () (by omega) (by intro m hm; omega) (by omega)
  · intro q i _ hi hinv
    have e1 : fX12_isRowFor_3 K now value place (nI p) (nI k) (nI c) (q + 1) (nI i) = fX12_isRowFor_34 K now value place (nI p) (nI k) (nI c) (fX12_isRowFor_3 K now value place (nI p) (nI k) (nI c) q) K (nI i) (nI (zaV (zat s p) i)) (nI 0) := by
      simp (disch := omega) only [fX12_isRowFor_3, zi_lit, zi_le, zi_inB, zi_clamp, zi_add, (h p (by omega)).1, (h (p + 1 + i) (by omega)).1, hvv i (by omega), zX12_columnsOf h ht, Option.bind_some]
      rw [if_pos (by omega), if_neg (by omega), if_pos (by omega)]
    rw [e1, L34 _ i (by omega)]
    by_cases h1 : zall (fun m => zali (zat s p) k m i) i = true
    · by_cases h2 : zall (fun m => zpn (zat s p) pl val k m i) c = true
      · left
        refine ⟨(), ?_, by rw [if_pos h1, if_pos h2]⟩
        intro j hj
        rcases Nat.lt_or_ge j i with g | g
        · exact hinv j g
        · have : j = i := by omega
          subst this; rw [h1, h2]; rfl
      · right
        rw [if_pos h1, if_neg h2]
        congr 1
        symm
        rw [← Bool.not_eq_true, zall_iff]
        intro g
        have := g i hi
        rw [Bool.and_eq_true] at this
        exact h2 this.2
    · right
      rw [if_neg h1]
      congr 1
      symm
      rw [← Bool.not_eq_true, zall_iff]
      intro g
      have := g i hi
      rw [Bool.and_eq_true] at this
      exact h1 this.1
  · intro q _ hinv
    simp (disch := omega) only [fX12_isRowFor_3, zi_le, zi_inB, zi_clamp, (h p (by omega)).1, zX12_columnsOf h ht, Option.bind_some]
    rw [if_pos (by omega), if_pos (by omega), zall_iff.mpr hinv]
theorem zrow_fit {s : Nat → Nat} {p : Nat} (ha : zaOK (zat s p)) (pl val : Nat → Nat) (hval : ∀ v, v < 4 → val v < 8) (c k : Nat) : zall (fun j => zall (fun m => zali (zat s p) k m j) j && zall (fun m => zpn (zat s p) pl val k m j) c) (s (1 + s p)) = zfit (zat s p) (zdd pl c val) k := by
  have hpin : ∀ j, j < 3 → zall (fun m => zpn (zat s p) pl val k m j) c = zpin (zdd pl c val) (zaV (zat s p) j) (zcol k j) := by
    intro j hj
    have h8 := hval _ (zaV_lt ha hj)
    rw [Bool.eq_iff_iff, zall_iff]
    unfold zpin zdd zpn
    by_cases hc : zany (fun m => decide (pl m = zaV (zat s p) j)) c = true
    · simp only [hc, if_true]
      have e8 : (8 + val (zaV (zat s p) j)) % 8 = val (zaV (zat s p) j) := by omega
      rw [e8]
      simp
      constructor
      · intro g
        obtain ⟨m, hm, q⟩ := zany_iff.mp hc
        rcases g m hm with g | g
        · exact absurd (of_decide_eq_true q) g
        · exact g.symm
      · intro g m _; right; exact g.symm
    · simp only [hc]
      simp
      intro m hm
      left
      intro q
      exact hc (zany_iff.mpr ⟨m, hm, decide_eq_true q⟩)
  have hw : s (1 + s p) ≤ 3 := ha.2.2.1
  have hw1 : 1 ≤ s (1 + s p) := ha.2.1
  have h0 := hpin 0 (by omega)
  have h1 := hpin 1 (by omega)
  have h2 := hpin 2 (by omega)
  have hwd : (zat s p).2.1 = s (1 + s p) := rfl
  have V0 : zaV (zat s p) 0 = (zat s p).2.2.1 := rfl
  have V1 : zaV (zat s p) 1 = (zat s p).2.2.2.1 := rfl
  have V2 : zaV (zat s p) 2 = (zat s p).2.2.2.2 := rfl
  rw [Bool.eq_iff_iff, zall_iff]
  unfold zfit zaG
  rw [hwd]
  simp only [Bool.and_eq_true, Bool.or_eq_true, decide_eq_true_eq, zall_iff]
  rw [← V0, ← V1, ← V2, ← h0, ← h1, ← h2]
  simp only [zall_iff]
  unfold zali
  simp only [Bool.or_eq_true, Bool.not_eq_true', decide_eq_false_iff_not, decide_eq_true_eq]
  constructor
  · intro g
    refine ⟨⟨⟨(g 0 (by omega)).2, ?_⟩, ?_⟩, ?_, ?_, ?_⟩
    · by_cases q : s (1 + s p) ≤ 1
      · exact Or.inl q
      · exact Or.inr (g 1 (by omega)).2
    · by_cases q : s (1 + s p) ≤ 2
      · exact Or.inl q
      · exact Or.inr (g 2 (by omega)).2
    · intro q e
      rcases (g 1 q).1 0 (by omega) with f | f
      · exact absurd e.symm f
      · exact f.symm
    · intro q e
      rcases (g 2 q).1 0 (by omega) with f | f
      · exact absurd e.symm f
      · exact f.symm
    · intro q e
      rcases (g 2 q).1 1 (by omega) with f | f
      · exact absurd e.symm f
      · exact f.symm
  · rintro ⟨⟨⟨g0, g1⟩, g2⟩, g3, g4, g5⟩ j hj
    have : j = 0 ∨ j = 1 ∨ j = 2 := by omega
    rcases this with e | e | e <;> subst e
    · exact ⟨fun i hi => by omega, g0⟩
    · refine ⟨fun i hi => ?_, g1.resolve_left (by omega)⟩
      have : i = 0 := by omega
      subst this
      by_cases q : zaV (zat s p) 0 = zaV (zat s p) 1
      · exact Or.inr (g3 hj q.symm).symm
      · exact Or.inl q
    · refine ⟨fun i hi => ?_, g2.resolve_left (by omega)⟩
      have : i = 0 ∨ i = 1 := by omega
      rcases this with e | e <;> subst e
      · by_cases q : zaV (zat s p) 0 = zaV (zat s p) 2
        · exact Or.inr (g4 hj q.symm).symm
        · exact Or.inl q
      · by_cases q : zaV (zat s p) 1 = zaV (zat s p) 2
        · exact Or.inr (g5 hj q.symm).symm
        · exact Or.inl q
