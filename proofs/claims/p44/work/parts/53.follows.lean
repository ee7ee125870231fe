/-! the reference grown to its end -/
theorem zX12_f62 (K : Nat) (hK : 5000 < K) {now : Nat → Int32} {s : Nat → Nat} (h : zM now s) (hs : zRul s) {g : Nat → Int32} {M : Nat → Nat} (hg : ∀ t, t < 5 → g t = nI (M t)) (hM : ∀ t, t < 5 → M t ≤ 4) {l : Nat} (hl : l < 1000) (r51 : Int32 → (Nat → Int32) → (Nat → Int32) → (Nat → Int32) → Int32 → (Nat → Int32) → Option ((Nat → Int32) × (Nat → Int32) × (Nat → Int32) × Int32 × (Nat → Int32))) :
    ∀ n k b c (R : Nat → Nat → Bool) (row comes value : Nat → Int32), (b = true → zF0 R + 2 ≤ n) → n < k → zMr row R → (∃ val, zMv value val) →
      ∃ row' comes' value', fX12_follows_62 K now r51 k (nI l) (bI b) row comes g (nI c) value = r51 (nI (l + 1)) row' comes' g (nI (zrnd s M l n b (R, c)).2) value' ∧ zMr row' (zrnd s M l n b (R, c)).1 ∧ ∃ val, zMv value' val := by
  intro n
  have e1 : (1 : Int32) = nI 1 := rfl
  have stop : ∀ k c (row comes value : Nat → Int32), 0 < k → fX12_follows_62 K now r51 k (nI l) (bI false) row comes g (nI c) value = r51 (nI (l + 1)) row comes g (nI c) value := by
    intro k c row comes value hk
    obtain ⟨k, rfl⟩ : ∃ z, k = z + 1 := ⟨k - 1, by omega⟩
    rw [fX12_follows_62, if_pos (show bI false = 0 from rfl), e1, zi_add]
  induction n with
  | zero =>
    intro k b c R row comes value hb hk hr hv
    cases b
    · exact ⟨row, comes, value, stop k c row comes value (by omega), hr, hv⟩
    · have := hb rfl; omega
  | succ n ih =>
    intro k b c R row comes value hb hk hr hv
    cases b
    · rw [zrnd, if_neg (by decide)]
      exact ⟨row, comes, value, stop k c row comes value (by omega), hr, hv⟩
    · obtain ⟨k, rfl⟩ : ∃ z, k = z + 1 := ⟨k - 1, by omega⟩
      obtain ⟨row1, comes1, value1, ea, h1, h2⟩ := zX12_goesRound K hK h hs hr hg hM hl (nI c) comes hv
      obtain ⟨row2, comes2, value2, eb, h3, h4⟩ := ih k (znw R s M l) (c + 1) (zstp R s M l) row1 comes1 value1 (by
        intro hn
        have := zF0_stp hn
        have := hb rfl
        omega) (by omega) h1 h2
      refine ⟨row2, comes2, value2, ?_, ?_, h4⟩
      · rw [fX12_follows_62, if_neg (show ¬ bI true = 0 by decide), ea, Option.bind_some]
        dsimp only
        rw [e1, zi_add, eb, zrnd, if_pos rfl]
      · rw [zrnd, if_pos rfl]; exact h3
theorem zX12_follows (K : Nat) (hK : 1000000 < K) {now : Nat → Int32} {s : Nat → Nat} (h : zM now s) (hs : zRul s) {M : Nat → Nat} (hM : zLst (zE s) M) (hM4 : ∀ t, t < 5 → M t ≤ 4) (row comes g : Nat → Int32) (ro : Int32) {value : Nat → Int32} (hval : ∃ val, zMv value val) :
    ∃ row' comes' g' value', fX12_follows K now row comes g ro value = some (row', comes', g', nI (zly s M 5).2, value') ∧ zMr row' (zly s M 5).1 ∧ (∀ t, t < 5 → g' t = nI (M t)) ∧ ∃ val, zMv value' val := by
  have hrn := hs.1
  have e1 : (1 : Int32) = nI 1 := rfl
  obtain ⟨b, g', ef, _, hg0⟩ := zX12_findsLayers K (by omega) h hs g
  have hg := hg0 M hM
  -- the facts
  obtain ⟨row0, h0, e0⟩ := z_forD (F := fun k i (z : Nat → Int32) => fX12_follows_7 K now k (nI i) z comes g' ro value) (n := 2560)
    (inv := fun i z => ∀ j, j < i → z j = bI (decide (s (6 + j) = 1))) (D := fun z => fX12_follows_51 K now K 0 z comes g' 0 value)
    (by
      intro k i z hi hv
      refine ⟨upd z i (bI (decide (s (6 + i) = 1))), ?_, ?_⟩
      · intro j hj
        rw [zu_at]
        by_cases e : j = i
        · rw [if_pos e, e]
        · rw [if_neg e]; exact hv j (by omega)
      · have hsi := (h (6 + i) (by omega)).2
        show fX12_follows_7 K now (k + 1) (nI i) z comes g' ro value = _
        rw [fX12_follows_7, if_neg (by rw [show (2560 : Int32) = nI 2560 from rfl, zi_le (by omega) (by omega)]; omega), show (6 : Int32) = nI 6 from rfl, zi_add, if_pos (by rw [zi_inB (by omega)]; omega), zi_clamp (by omega), (h (6 + i) (by omega)).1]
        unfold fX12_follows_37
        rw [if_pos (show inB (nI i) 2560 = true by rw [zi_inB (by omega)]; exact hi), if_pos (show inB (nI i) 2560 = true by rw [zi_inB (by omega)]; exact hi), zi_b11, zi_b00, zi_clamp (by omega), e1, zi_add]
        by_cases q : s (6 + i) = 1
        · rw [if_pos (by rw [q]), decide_eq_true q]
        · rw [if_neg (by rw [zi_eq (by omega) (by omega)]; exact q), decide_eq_false q])
    (by
      intro k z hv
      show fX12_follows_7 K now (k + 1) (nI 2560) z comes g' ro value = _
      rw [fX12_follows_7, if_pos (show (2560 : Int32) ≤ nI 2560 by decide)])
    2560 K 0 row (by omega) (fun j hj => by omega) (by omega)
  have hr0 : zMr row0 (zfacts s) := by
    intro t k ht hk
    rw [h0 _ (by omega)]
    unfold zfacts
    rw [show 6 + (512 * t + k) = 6 + 512 * t + k by omega]
  obtain ⟨⟨row1, comes1, v1⟩, ⟨h1, h2⟩, e2⟩ := z_forD (F := fun k l (z : (Nat → Int32) × (Nat → Int32) × (Nat → Int32)) => fX12_follows_51 K now k (nI l) z.1 z.2.1 g' (nI (zly s M l).2) z.2.2) (n := 5)
    (inv := fun l z => zMr z.1 (zly s M l).1 ∧ ∃ val, zMv z.2.2 val) (D := fun z => some (z.1, z.2.1, g', nI (zly s M 5).2, z.2.2))
    (by
      intro k l z hl hinv
      obtain ⟨i1, i2⟩ := hinv
      obtain ⟨row1, comes1, v1, ea, q1, q2⟩ := zX12_f62 K (by omega) h hs hg hM4 (show l < 1000 by omega) (fX12_follows_51 K now k) 2562 K (zany (zwk s M l) (zrn s)) (zly s M l).2 (zly s M l).1 z.1 z.2.1 z.2.2 (fun _ => by have := zF0_le (zly s M l).1; omega) (by omega) i1 i2
      refine ⟨(row1, comes1, v1), ⟨q1, q2⟩, ?_⟩
      show fX12_follows_51 K now (k + 1) (nI l) z.1 z.2.1 g' (nI (zly s M l).2) z.2.2 = _
      rw [fX12_follows_51, if_neg (by rw [show (5 : Int32) = nI 5 from rfl, zi_le (by omega) (by omega)]; omega), zX12_hasRules K (by omega) h hs hg hM4 (by omega), Option.bind_some, ea]
      rfl)
    (by
      intro k z hinv
      show fX12_follows_51 K now (k + 1) (nI 5) z.1 z.2.1 g' (nI (zly s M 5).2) z.2.2 = _
      rw [fX12_follows_51, if_pos (by decide)])
    5 K 0 (row0, comes, value) (by omega) ⟨hr0, hval⟩ (by omega)
  refine ⟨row1, comes1, g', v1, ?_, h1, hg, h2⟩
  unfold fX12_follows
  rw [ef, Option.bind_some]
  have e0' : fX12_follows_7 K now K 0 row comes g' ro value = fX12_follows_51 K now K 0 row0 comes g' 0 value := e0
  rw [e0']
  exact e2
