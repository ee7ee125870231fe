/-! a fact told and taken back leaves nothing; a drawn query -/
theorem zy_leavesNothing (K : Nat) (hK : 1000000 < K) {O : zObj} {s : Nat → Nat} {L : List (Nat → Nat)} (h : zIc O s L) {vCol : Nat → Int32} (hC : zyC s vCol) {vFa : Nat → Nat → Int32} (hF : zyW (zfacts s) vFa) (hT : 0 < s 0) (h60 : ∀ t, t < 5 → zcnt (zfacts s t) 512 < 60) (se : Int64) : ∃ O' L' se', hL_leavesNothing K (nI (s 0)) vCol vFa O se = some (true, O', se') ∧ zIc O' s L' := by
  have hWF := h.1
  have h5 := hWF.1
  obtain ⟨t, se1, ht, e1⟩ := zy_next K hT (by omega) se
  obtain ⟨k, se2, e2, hk, hin⟩ := zy_drawnCode K (by omega) hWF hC (m := 8) ht (by omega) (by omega) se1
  have e2' : hL_drawnCode K vCol (nI t) (8 : Int32) se1 = some (nI k, se2) := e2
  have ht5 : t < 5 := by omega
  have i512 : inB (nI k) 512 = true := by rw [zi_inB (by omega)]; exact hk
  obtain ⟨hv, hke⟩ := zvl_of hk (hWF.2.1 t ht).1 hin
  have v0 : hL_valueIn K (nI k) (0 : Int32) = some (nI (zcol k 0)) := zy_valueIn K hk (j := 0) (by omega)
  have v1 : hL_valueIn K (nI k) (1 : Int32) = some (nI (zcol k 1)) := zy_valueIn K hk (j := 1) (by omega)
  have v2 : hL_valueIn K (nI k) (2 : Int32) = some (nI (zcol k 2)) := zy_valueIn K hk (j := 2) (by omega)
  unfold hL_leavesNothing
  rw [e1, Option.bind_some, e2', Option.bind_some, if_pos (zy_i5 ht5), if_pos i512, zi_clamp (show t < 2147483648 by omega), zi_clamp (show k < 2147483648 by omega), hF t k ht5 hk]
  cases ef : zfacts s t k
  · rw [if_pos (show bI false = 0 from rfl), zy_fcount K (by omega) hF ht5, Option.bind_some, if_neg (by rw [show (60 : Int32) = nI 60 from rfl, zi_eq (by have := zcnt_le (zfacts s t) 512; omega) (by omega)]; have := h60 t ht5; omega)]
    obtain ⟨O1, c1, hO1⟩ := zd_checksum K hK h
    have c2 := zd_factCount K hK hO1 ht
    obtain ⟨O2, c3, hO2⟩ := zy_addFact K hK hO1 ht hk hin (h60 t ht5)
    rw [ef, if_neg (by decide)] at c3
    rw [ef, if_neg (by decide), if_neg (by decide)] at hO2
    have hW2 := hO2.1
    have hne : ∀ i, i ≠ 6 + 512 * t + k → zup s (6 + 512 * t + k) 1 i = s i := fun i g => zup_ne _ _ g
    have ht2 : t < zup s (6 + 512 * t + k) 1 0 := by rw [hne _ (by omega)]; exact ht
    have hv2 : zvl 8 (zup s (6 + 512 * t + k) 1 (1 + t)) (zcol k 0) (zcol k 1) (zcol k 2) := by rw [hne _ (by omega)]; exact hv
    have hfact : zfacts (zup s (6 + 512 * t + k) 1) t k = true := by unfold zfacts; rw [zup_at]; rfl
    obtain ⟨O3, c4, hO3⟩ := zd_reasons K hK hO2 ht2 hv2 hke
    have hpos : 0 < zre (zRw (zup s (6 + 512 * t + k) 1)) (zup s (6 + 512 * t + k) 1) t k := (zre_pos hW2 ht5 hk).2 (zly_up hfact)
    have hle := zre_le hW2.2.2.2.2.2.2.1 (zRw (zup s (6 + 512 * t + k) 1)) t k
    obtain ⟨O4, c5, hO4⟩ := zd_removeFact K hK hO3 ht2 hv2 hke hfact
    have hcnt := zd_cntAdd hk ef
    rw [hcnt, Nat.add_sub_cancel] at c5
    have hback : zup (zup s (6 + 512 * t + k) 1) (6 + 512 * t + k) 0 = s := by
      funext i
      by_cases g : i = 6 + 512 * t + k
      · rw [g, zup_at]
        have h1 := hWF.2.2.1 (512 * t + k) (by omega)
        have h2 : ¬ s (6 + 512 * t + k) = 1 := by
          intro e
          unfold zfacts at ef
          rw [e] at ef
          exact absurd ef (by decide)
        rw [show 6 + (512 * t + k) = 6 + 512 * t + k by omega] at h1
        omega
      · rw [zup_ne _ _ g, zup_ne _ _ g]
    rw [hback] at hO4
    obtain ⟨O5, c6, hO5⟩ := zd_checksum K hK hO4
    obtain ⟨O6, c7, hO6⟩ := zd_undo K hK hO5
    obtain ⟨O7, c8, hO7⟩ := zd_undo K hK (s1 := s) (L := (L.take 9).take 8) hO6
    obtain ⟨O8, c9, hO8⟩ := zd_checksum K hK hO7
    have c10 := zd_factCount K hK hO8 ht
    have l1 : ((s :: L.take 9).take 9).length < 1000 := by rw [List.length_take]; omega
    have l2 : ((L.take 9).take 8).length < 1000 := by rw [List.length_take]; omega
    refine ⟨O8, (L.take 9).take 8, se2, ?_, hO8⟩
    rw [c1, Option.bind_some, c2, Option.bind_some, c3, Option.bind_some, if_pos (nI_succ _), v0, Option.bind_some, v1, Option.bind_some, v2, Option.bind_some, c4, Option.bind_some, if_pos (show (1 : Int32) ≤ nI (zre (zRw (zup s (6 + 512 * t + k) 1)) (zup s (6 + 512 * t + k) 1) t k) by rw [show (1 : Int32) = nI 1 from rfl, zi_le (by omega) (by omega)]; omega), Option.bind_some, Option.bind_some, Option.bind_some, c5, Option.bind_some, if_pos rfl, c6, Option.bind_some, if_pos rfl, c7, Option.bind_some, if_neg (nI_pos (by omega)), c8, Option.bind_some, if_neg (nI_pos (by omega)), c9, Option.bind_some, if_pos rfl, c10, Option.bind_some, if_pos rfl]
  · rw [if_neg (show ¬ bI true = 0 by decide)]
    exact ⟨O, L, se2, rfl, h⟩
/-! a query grows -/
theorem zqad_at (s : Nat → Nat) (q t x y z i : Nat) : zqad s q t x y z i = if i = 2570 + 21 * q then zqn s q + 1 else if i = zqp q (zqn s q) + 3 then z else if i = zqp q (zqn s q) + 2 then y else if i = zqp q (zqn s q) + 1 then x else if i = zqp q (zqn s q) then t else s i := rfl
theorem zqad_facts {s : Nat → Nat} (hW : zWF s) {q t x y z : Nat} (hq : q < 4) (hn : zqn s q < 5) (ht : t < s 0) : (∀ i, (i < 2570 ∨ 2654 ≤ i) → zqad s q t x y z i = s i) ∧ zqn (zqad s q t x y z) q = zqn s q + 1 ∧ (∀ i, i < zqn s q → zqa (zqad s q t x y z) q i = zqa s q i) ∧ zqa (zqad s q t x y z) q (zqn s q) = (t, s (1 + t), x, y, z) ∧ ∀ u, u < 4 → u ≠ q → zsmQ s (zqad s q t x y z) u := by
  have h5 := hW.1
  have hp : zqp q (zqn s q) = 2570 + 21 * q + 1 + 4 * zqn s q := rfl
  have hne : ∀ i, i ≠ 2570 + 21 * q → (i < zqp q (zqn s q) ∨ zqp q (zqn s q) + 4 ≤ i) → zqad s q t x y z i = s i := by
    intro i g1 g2
    rw [zqad_at, if_neg g1, if_neg (by omega), if_neg (by omega), if_neg (by omega), if_neg (by omega)]
  have hT : zsmT s (zqad s q t x y z) := ⟨by rw [hne 0 (by omega) (by omega)]; exact Nat.le_refl _, fun t ht => hne _ (by omega) (by omega)⟩
  obtain ⟨w1, w2, w3⟩ := hW.2.2.2.2.2.1 q hq
  refine ⟨fun i hi => hne i (by omega) (by omega), ?_, ?_, ?_, ?_⟩
  · show zqad s q t x y z (2570 + 21 * q) = _
    rw [zqad_at, if_pos rfl]
  · intro i hi
    have hpi : zqp q i = 2570 + 21 * q + 1 + 4 * i := rfl
    exact zat_same hT (w3 i hi) (fun j hj => hne _ (by omega) (by omega))
  · have c0 : zqad s q t x y z (zqp q (zqn s q)) = t := by rw [zqad_at, if_neg (by omega), if_neg (by omega), if_neg (by omega), if_neg (by omega), if_pos rfl]
    have c1 : zqad s q t x y z (zqp q (zqn s q) + 1) = x := by rw [zqad_at, if_neg (by omega), if_neg (by omega), if_neg (by omega), if_pos rfl]
    have c2 : zqad s q t x y z (zqp q (zqn s q) + 2) = y := by rw [zqad_at, if_neg (by omega), if_neg (by omega), if_pos rfl]
    have c3 : zqad s q t x y z (zqp q (zqn s q) + 3) = z := by rw [zqad_at, if_neg (by omega), if_pos rfl]
    unfold zqa zat
    rw [c0, c1, c2, c3, hT.2 t ht]
  · intro u hu hne'
    exact zsmQ_of hW hT hu (fun i h1 h2 => hne i (by omega) (by omega)) (hne _ (by omega) (by omega))
/-- a state that differs from another in one query alone -/
def zQg (s0 s : Nat → Nat) (q k : Nat) (A : Nat → zA) : Prop := (∀ i, (i < 2570 ∨ 2654 ≤ i) → s i = s0 i) ∧ zqn s q = k ∧ (∀ j, j < k → zqa s q j = A j) ∧ ∀ u, u < 4 → u ≠ q → zsmQ s0 s u
theorem zQg_add {s0 s : Nat → Nat} {q k : Nat} {A : Nat → zA} (hW : zWF s) (hq : q < 4) (h : zQg s0 s q k A) (hk : k < 5) {a : zA} (ht : a.1 < s 0) (hw : a.2.1 = s (1 + a.1)) : zQg s0 (zqad s q a.1 a.2.2.1 a.2.2.2.1 a.2.2.2.2) q (k + 1) (zup A k a) := by
  obtain ⟨h1, h2, h3, h4⟩ := h
  obtain ⟨f1, f2, f3, f4, f5⟩ := zqad_facts (x := a.2.2.1) (y := a.2.2.2.1) (z := a.2.2.2.2) hW hq (show zqn s q < 5 by omega) ht
  refine ⟨fun i hi => (f1 i hi).trans (h1 i hi), by rw [f2, h2], ?_, ?_⟩
  · intro j hj
    by_cases g : j = k
    · rw [g, zup_at, ← h2, f4, ← hw]
    · rw [zup_ne _ _ g, f3 j (by omega)]
      exact h3 j (by omega)
  · intro u hu hne
    obtain ⟨a1, a2, a3⟩ := f5 u hu hne
    obtain ⟨b1, b2, b3⟩ := h4 u hu hne
    exact ⟨a1.trans b1, a2.trans b2, fun i hi => (a3 i (by rw [b1]; exact hi)).trans (b3 i hi)⟩
theorem zQg_low {s0 s : Nat → Nat} {q k : Nat} {A : Nat → zA} (hW0 : zWF s0) (h : zQg s0 s q k A) : s 0 = s0 0 ∧ (∀ t, t < 5 → s (1 + t) = s0 (1 + t)) ∧ zsmR s0 s ∧ (∀ t k, t < 5 → k < 512 → zfacts s t k = zfacts s0 t k) := by
  obtain ⟨h1, h2, h3, h4⟩ := h
  have h0 : s 0 = s0 0 := h1 0 (by omega)
  have h5 := hW0.1
  have hT : zsmT s0 s := ⟨by omega, fun t ht => h1 _ (by omega)⟩
  refine ⟨h0, fun t ht => h1 _ (by omega), zsmR_of hW0 hT (fun i a b => h1 i (by omega)), ?_⟩
  intro t k ht hk
  unfold zfacts
  rw [h1 _ (by omega)]
theorem zQg_rows {s0 s : Nat → Nat} {q k : Nat} {A : Nat → zA} (hW0 : zWF s0) (h : zQg s0 s q k A) : zeqR (zRw s) (zRw s0) := by
  obtain ⟨h1, h2, h3, h4⟩ := zQg_low hW0 h
  exact (zRw_same hW0 h3 h4).2
theorem zyW_R {R R' : Nat → Nat → Bool} {v : Nat → Nat → Int32} (h : zeqR R' R) (hW : zyW R v) : zyW R' v := fun t k ht hk => by rw [hW t k ht hk, h t k ht hk]
theorem zLV_up {A B : Nat → zA} {n : Nat} (h : ∀ i, i < n → A i = B i) : zLV A (fun _ => false) false n = zLV B (fun _ => false) false n := zLV_cong (fun i hi => ⟨h i hi, rfl⟩)
theorem zvl_4 {m w x y z : Nat} (h : zvl m w x y z) (hm : m ≤ 4) : zvl 4 w x y z := by
  obtain ⟨p1, p2, p3⟩ := h
  refine ⟨by omega, ?_, ?_⟩
  · split
    · rename_i g; rw [if_pos g] at p2; omega
    · rename_i g; rw [if_neg g] at p2; exact p2
  · split
    · rename_i g; rw [if_pos g] at p3; omega
    · rename_i g; rw [if_neg g] at p3; exact p3
/-- the atoms of a drawn query -/
theorem zy_as24 (K : Nat) (hK : 1000000 < K) {s0 : Nat → Nat} (hW0 : zWF s0) (hT : 0 < s0 0) {vCol : Nat → Int32} (hC : zyC s0 vCol) (vRo : Nat → Nat → Int32) {m : Nat} (hm : m ≤ 4) (vP : zObj) (vVa : Nat → Int32) : ∀ c n, c < n → ∀ {O : zObj} {s : Nat → Nat} {L : List (Nat → Nat)} {A : Nat → zA} {vA : Nat → Nat → Int32} (se : Int64), c ≤ m → zIc O s L → zQg s0 s 2 (m - c) A → (∀ j, j < m - c → zGt vCol (vA j) 4 0 (A j) ∧ zvA (A j)) → ∃ O' s' L' A' vA' se', hL_asks_24 K (nI (s0 0)) vCol vRo n (nI m) (nI (zLV A (fun _ => false) false (m - c))) (nI (m - c)) O vP vVa se m vA = hL_asks_116 K (nI (s0 0)) vCol vRo K (nI m) (nI (zLV A' (fun _ => false) false m)) 0 0 O' vP vVa se' m vA' ∧ zIc O' s' L' ∧ zQg s0 s' 2 m A' ∧ ∀ j, j < m → zGt vCol (vA' j) 4 0 (A' j) ∧ zvA (A' j) := by
  intro c
  induction c with
  | zero =>
    intro n hn O s L A vA se _ h hQ hA
    obtain ⟨n, rfl⟩ : ∃ z, n = z + 1 := ⟨n - 1, by omega⟩
    refine ⟨O, s, L, A, vA, se, ?_, h, hQ, hA⟩
    rw [hL_asks_24, if_pos (by rw [zi_le (by omega) (by omega)]; omega)]
    rfl
  | succ c ih =>
    intro n hn O s L A vA se hcm h hQ hA
    obtain ⟨n, rfl⟩ : ∃ z, n = z + 1 := ⟨n - 1, by omega⟩
    have hW := h.1
    obtain ⟨l0, l1, l2, l3⟩ := zQg_low hW0 hQ
    have hCs : zyC s vCol := fun t ht => by rw [l1 t ht]; exact hC t ht
    have ik : inB (nI (m - (c + 1))) m = true := by rw [zi_inB (by omega)]; omega
    obtain ⟨v, se1, hv, e1⟩ := zy_next K (show 0 < 3 by omega) (by omega) se
    have e1' : hX12_next K (3 : Int32) se = some (nI v, se1) := e1
    obtain ⟨se2, G, a, e2, hG, ha1, ha2, hav, hGk⟩ := zy_laysAtom K (by omega) hW (by omega) hCs (nG := 4) (p := 0) (m := 2 + v) (by omega) (by omega) (by omega) (by omega) se1 (vA (m - (c + 1)))
    rw [l0] at e2
    have e2' : hL_laysAtom K 4 (nI (s0 0)) vCol (0 : Int32) ((2 : Int32) + nI v) se1 (vA (m - (c + 1))) = some (se2, G) := by
      rw [show (2 : Int32) + nI v = nI (2 + v) by rw [show (2 : Int32) = nI 2 from rfl, zi_add]]
      exact e2
    have hav4 := zvl_4 hav (show 2 + v ≤ 4 by omega)
    have hqn := hQ.2.1
    have hav5 : zvl 4 (s (1 + a.1)) a.2.2.1 a.2.2.2.1 a.2.2.2.2 := by rw [← ha2]; exact hav4
    obtain ⟨O1, e3, hO1⟩ := zd_addAtom K hK h (k := 2) (by omega) (by rw [hqn]; omega) ha1 hav5
    rw [hqn] at e3
    have e3' : hX11_addAtom K O (2 : Int32) (nI a.1) (nI a.2.2.1) (nI a.2.2.2.1) (nI a.2.2.2.2) = some (nI (m - (c + 1)), O1) := e3
    have hQ1 := zQg_add hW (show 2 < 4 by omega) hQ (show m - (c + 1) < 5 by omega) ha1 ha2
    have hm1 : m - (c + 1) + 1 = m - c := by omega
    rw [hm1] at hQ1
    have hvar : hX13_variables K 4 vCol G (0 : Int32) = some (nI (zaS a)) := zy_variables K (by omega) hG
    obtain ⟨_, _, _, g0, g1, g2, g3, _⟩ := hG
    have hA1 : ∀ j, j < m - c → zGt vCol (zup vA (m - (c + 1)) G j) 4 0 (zup A (m - (c + 1)) a j) ∧ zvA (zup A (m - (c + 1)) a j) := by
      intro j hj
      by_cases g : j = m - (c + 1)
      · rw [g, zup_at, zup_at]
        exact ⟨⟨by omega, by omega, by assumption, g0, g1, g2, g3, by assumption⟩, hav4⟩
      · rw [zup_ne _ _ g, zup_ne _ _ g]
        exact hA j (by omega)
    obtain ⟨O', s', L', A', vA', se', e, k1, k2, k3⟩ := ih n (by omega) se2 (by omega) hO1 hQ1 hA1
    refine ⟨O', s', L', A', vA', se', ?_, k1, k2, k3⟩
    have hlv : nI (zLV A (fun _ => false) false (m - (c + 1))) ||| nI (zaS a) = nI (zLV (zup A (m - (c + 1)) a) (fun _ => false) false (m - c)) := by
      rw [zi_or, ← hm1]
      congr 1
      show _ = zLV (zup A (m - (c + 1)) a) (fun _ => false) false (m - (c + 1)) ||| (if false = false then zaS (zup A (m - (c + 1)) a (m - (c + 1))) else 0)
      rw [if_pos rfl, zup_at, zLV_up (A := zup A (m - (c + 1)) a) (B := A) (fun i hi => zup_ne _ _ (by omega))]
    have i0 : inB (0 : Int32) 4 = true := by decide
    have i1 : inB (1 : Int32) 4 = true := by decide
    have i2 : inB (2 : Int32) 4 = true := by decide
    have i3 : inB (3 : Int32) 4 = true := by decide
    rw [hL_asks_24, if_neg (by rw [zi_le (by omega) (by omega)]; omega), if_pos ik, e1', Option.bind_some, zi_clamp (show m - (c + 1) < 2147483648 by omega), e2', Option.bind_some, if_pos ik, zup_at, hvar, Option.bind_some, if_pos ik, if_pos i0, if_pos ik, if_pos i1, if_pos ik, if_pos i2, if_pos ik, if_pos i3, zy_c0, show (1 : Int32).toNatClampNeg = 1 by decide, show (2 : Int32).toNatClampNeg = 2 by decide, show (3 : Int32).toNatClampNeg = 3 by decide]
    have g0' : G 0 = nI a.1 := g0
    have g1' : G 1 = nI a.2.2.1 := g1
    have g2' : G 2 = nI a.2.2.2.1 := g2
    have g3' : G 3 = nI a.2.2.2.2 := g3
    dsimp only
    rw [g0', g1', g2', g3', e3', Option.bind_some, if_pos rfl, hlv, ← nI_succ, hm1]
    exact e
theorem zyW_A {vCol : Nat → Int32} {vA : Nat → Nat → Int32} {A : Nat → zA} {m : Nat} (hm : m < 1000) (h : ∀ j, j < m → zGt vCol (vA j) 4 0 (A j) ∧ zvA (A j)) : zyA vCol vA A m m := ⟨Nat.le_refl _, hm, fun j hj => (h j hj).1⟩
