/-! rules as the law draws them -/
theorem zy_first : ∀ j : Fin 15, (upd (upd (upd (upd (upd (upd (upd (upd (upd (upd (upd (upd (upd (upd (upd (fun _ => (0 : Int32)) (0 : Int32).toNatClampNeg (1 : Int32)) (1 : Int32).toNatClampNeg (0 : Int32)) (2 : Int32).toNatClampNeg (2 : Int32)) (3 : Int32).toNatClampNeg (0 : Int32)) (4 : Int32).toNatClampNeg (2 : Int32)) (5 : Int32).toNatClampNeg (1 : Int32)) (6 : Int32).toNatClampNeg (0 : Int32)) (7 : Int32).toNatClampNeg (1 : Int32)) (8 : Int32).toNatClampNeg (0 : Int32)) (9 : Int32).toNatClampNeg (0 : Int32)) (10 : Int32).toNatClampNeg (0 : Int32)) (11 : Int32).toNatClampNeg (1 : Int32)) (12 : Int32).toNatClampNeg (2 : Int32)) (13 : Int32).toNatClampNeg (0 : Int32)) (14 : Int32).toNatClampNeg (0 : Int32)) j.val = nI (zcs19 (2680 + j.val)) := by decide +kernel
theorem zy_firstA : ∀ j : Fin 10, (upd (upd (upd (upd (upd (upd (upd (upd (upd (upd (fun _ => (0 : Int32)) (0 : Int32).toNatClampNeg (1 : Int32)) (1 : Int32).toNatClampNeg (0 : Int32)) (2 : Int32).toNatClampNeg (1 : Int32)) (3 : Int32).toNatClampNeg (0 : Int32)) (4 : Int32).toNatClampNeg (1 : Int32)) (5 : Int32).toNatClampNeg (0 : Int32)) (6 : Int32).toNatClampNeg (0 : Int32)) (7 : Int32).toNatClampNeg (1 : Int32)) (8 : Int32).toNatClampNeg (0 : Int32)) (9 : Int32).toNatClampNeg (0 : Int32)) j.val = nI (zcs19 (2655 + j.val)) := by decide +kernel
theorem zy_firstN : zcs19 2654 = 2 ∧ zcs19 2659 = 1 ∧ zcs19 2684 = 2 := by decide +kernel
theorem zy_firstRules (K : Nat) {s : Nat → Nat} (hs : ∀ i, 2566 ≤ i → i < 2780 → s i = zcs19 i) (vRc : Int32) (vRu : Nat → Nat → Int32) : ∃ vRu', hL_firstRules K vRc vRu = some (nI 2, vRu') ∧ zyR s vRu' := by
  obtain ⟨f1, f2, f3⟩ := zy_firstN
  have hn : zrn s = 2 := by show s 2654 = 2; rw [hs _ (by omega) (by omega)]; exact f1
  have h0 : zbn s 0 = 1 := by show s 2659 = 1; rw [hs _ (by omega) (by omega)]; exact f2
  have h1 : zbn s 1 = 2 := by show s 2684 = 2; rw [hs _ (by omega) (by omega)]; exact f3
  have c0 : (0 : Int32).toNatClampNeg = 0 := by decide
  have c1 : (1 : Int32).toNatClampNeg = 1 := by decide
  have c10 : (10 : Int32).toNatClampNeg = 10 := by decide
  have c15 : (15 : Int32).toNatClampNeg = 15 := by decide
  unfold hL_firstRules
  refine ⟨_, rfl, ?_⟩
  intro r hr j hj
  rw [hn] at hr
  have : r = 0 ∨ r = 1 := by omega
  rcases this with e | e
  · subst e
    rw [h0] at hj
    have hj' : j < 10 := by omega
    have ha := zy_firstA ⟨j, hj'⟩
    rw [zq_at, if_neg (by rw [c1]; omega), zq_at, if_pos c0.symm]
    show va_cpy _ _ (0 : Int32).toNatClampNeg (0 : Int32).toNatClampNeg (10 : Int32).toNatClampNeg j = _
    rw [pk_cpy_in (by rw [c0]; omega) (by rw [c0, c10]; omega), c0]
    rw [show 0 + (j - 0) = j by omega]
    refine ha.trans ?_
    rw [show zhp 0 + j = 2655 + j from rfl, hs _ (by omega) (by omega)]
  · subst e
    rw [h1] at hj
    have hj' : j < 15 := by omega
    have ha := zy_first ⟨j, hj'⟩
    rw [zq_at, if_pos c1.symm]
    show va_cpy _ _ (0 : Int32).toNatClampNeg (0 : Int32).toNatClampNeg (15 : Int32).toNatClampNeg j = _
    rw [pk_cpy_in (by rw [c0]; omega) (by rw [c0, c15]; omega), c0]
    rw [show 0 + (j - 0) = j by omega]
    refine ha.trans ?_
    rw [show zhp 1 + j = 2680 + j from rfl, hs _ (by omega) (by omega)]
/-- cells of a state with an atom more -/
theorem zrat_at (s : Nat → Nat) (r t x y z v i : Nat) : zrat s r t x y z v i = if i = zhp r + 4 then zbn s r + 1 else if i = zbp r (zbn s r) + 4 then v else if i = zbp r (zbn s r) + 3 then z else if i = zbp r (zbn s r) + 2 then y else if i = zbp r (zbn s r) + 1 then x else if i = zbp r (zbn s r) then t else s i := rfl
theorem zrad_at (s : Nat → Nat) (t x y z i : Nat) : zrad s t x y z i = if i = 2654 then zrn s + 1 else if i = zhp (zrn s) + 4 then 0 else if i = zhp (zrn s) + 3 then z else if i = zhp (zrn s) + 2 then y else if i = zhp (zrn s) + 1 then x else if i = zhp (zrn s) then t else s i := rfl
/-! rules with nothing in the columns that aren't -/
def zvA (a : zA) : Prop := zvl 4 a.2.1 a.2.2.1 a.2.2.2.1 a.2.2.2.2
def zVr (s : Nat → Nat) : Prop := ∀ r, r < zrn s → zvA (zrh s r) ∧ ∀ i, i < zbn s r → zvA (zba s r i)
theorem zVr_rat {s : Nat → Nat} (hW : zWF s) (hV : zVr s) {r t x y z v : Nat} (hr : r < zrn s) (hn : zbn s r < 4) (ht : t < s 0) (ha : zvA (t, s (1 + t), x, y, z)) : zVr (zrat s r t x y z v) := by
  obtain ⟨f1, f2, f3, f4, f5, f6, f7⟩ := zrat_facts (x := x) (y := y) (z := z) (v := v) hW hr hn ht
  have hcnt : zrn (zrat s r t x y z v) = zrn s := f1 2654 (by omega)
  intro u hu
  rw [hcnt] at hu
  by_cases g : u = r
  · subst g
    rw [f3, f2]
    refine ⟨(hV u hu).1, ?_⟩
    intro i hi
    by_cases e : i = zbn s u
    · rw [e, f5]; exact ha
    · rw [(f4 i (by omega)).1]; exact (hV u hu).2 i (by omega)
  · obtain ⟨a1, a2, a3⟩ := f7 u hu g
    rw [a1, a2]
    refine ⟨(hV u hu).1, ?_⟩
    intro i hi
    rw [(a3 i hi).1]
    exact (hV u hu).2 i hi
theorem zrad_facts {s : Nat → Nat} (hW : zWF s) {t x y z : Nat} (hn : zrn s < 5) (ht : t < s 0) : (∀ i, i < 2654 → zrad s t x y z i = s i) ∧ zrn (zrad s t x y z) = zrn s + 1 ∧ zrh (zrad s t x y z) (zrn s) = (t, s (1 + t), x, y, z) ∧ zbn (zrad s t x y z) (zrn s) = 0 ∧ ∀ r, r < zrn s → zrh (zrad s t x y z) r = zrh s r ∧ zbn (zrad s t x y z) r = zbn s r ∧ ∀ i, i < zbn s r → zba (zrad s t x y z) r i = zba s r i ∧ (zrad s t x y z) (zbp r i + 4) = s (zbp r i + 4) := by
  have h5 := hW.1
  have hp : zhp (zrn s) = 2655 + 25 * zrn s := rfl
  have hne : ∀ i, i ≠ 2654 → (i < zhp (zrn s) ∨ zhp (zrn s) + 5 ≤ i) → zrad s t x y z i = s i := by
    intro i g1 g2
    rw [zrad_at, if_neg g1, if_neg (by omega), if_neg (by omega), if_neg (by omega), if_neg (by omega), if_neg (by omega)]
  have hT : zsmT s (zrad s t x y z) := ⟨by rw [hne 0 (by omega) (by omega)]; exact Nat.le_refl _, fun t ht => hne _ (by omega) (by omega)⟩
  refine ⟨fun i hi => hne i (by omega) (by omega), ?_, ?_, ?_, ?_⟩
  · show zrad s t x y z 2654 = _
    rw [zrad_at, if_pos rfl]
  · have c0 : zrad s t x y z (zhp (zrn s)) = t := by rw [zrad_at, if_neg (by omega), if_neg (by omega), if_neg (by omega), if_neg (by omega), if_neg (by omega), if_pos rfl]
    have c1 : zrad s t x y z (zhp (zrn s) + 1) = x := by rw [zrad_at, if_neg (by omega), if_neg (by omega), if_neg (by omega), if_neg (by omega), if_pos rfl]
    have c2 : zrad s t x y z (zhp (zrn s) + 2) = y := by rw [zrad_at, if_neg (by omega), if_neg (by omega), if_neg (by omega), if_pos rfl]
    have c3 : zrad s t x y z (zhp (zrn s) + 3) = z := by rw [zrad_at, if_neg (by omega), if_neg (by omega), if_pos rfl]
    unfold zrh zat
    rw [c0, c1, c2, c3, hT.2 t ht]
  · show zrad s t x y z (zhp (zrn s) + 4) = 0
    rw [zrad_at, if_neg (by omega), if_pos rfl]
  · intro r hr
    have hpr : zhp r = 2655 + 25 * r := rfl
    exact zrule_same hW hT hr (fun i h1 h2 => hne i (by omega) (by omega))
theorem zVr_rad {s : Nat → Nat} (hW : zWF s) (hV : zVr s) {t x y z : Nat} (hn : zrn s < 5) (ht : t < s 0) (ha : zvA (t, s (1 + t), x, y, z)) : zVr (zrad s t x y z) := by
  obtain ⟨f1, f2, f3, f4, f5⟩ := zrad_facts (x := x) (y := y) (z := z) hW hn ht
  intro r hr
  rw [f2] at hr
  by_cases g : r = zrn s
  · subst g
    rw [f3, f4]
    exact ⟨ha, fun i hi => absurd hi (Nat.not_lt_zero _)⟩
  · obtain ⟨a1, a2, a3⟩ := f5 r (by omega)
    rw [a1, a2]
    refine ⟨(hV r (by omega)).1, ?_⟩
    intro i hi
    rw [(a3 i hi).1]
    exact (hV r (by omega)).2 i hi
theorem zVr_drop {s : Nat → Nat} (hW : zWF s) (hV : zVr s) {u : Nat} (hu : u < zrn s) : zVr (zdrop s u) := by
  obtain ⟨f1, f2, f3⟩ := zdrop_facts hW hu
  intro r hr
  rw [f2] at hr
  obtain ⟨g0, g1, g2, g3⟩ := f3 r hr
  rw [g1, g2]
  refine ⟨(hV _ g0).1, ?_⟩
  intro i hi
  rw [(g3 i hi).1]
  exact (hV _ g0).2 i hi
/-- what stands while rules are drawn -/
def zI2 (O : zObj) (s0 s : Nat → Nat) (L : List (Nat → Nat)) (vCol : Nat → Int32) (vRu : Nat → Nat → Int32) : Prop :=
  zIc O s L ∧ zyC s vCol ∧ zyR s vRu ∧ (∀ i, i < 2654 → s i = s0 i) ∧ zVr s
theorem zyC_low {s s' : Nat → Nat} {vCol : Nat → Int32} (h : zyC s vCol) (e : ∀ i, i < 2654 → s' i = s i) : zyC s' vCol := fun t ht => by rw [e _ (by omega)]; exact h t ht
/-- an atom laid behind the last one of a rule -/
theorem zyR_rat {s : Nat → Nat} {vRu : Nat → Nat → Int32} (hR : zyR s vRu) (hs : zRul s) {vCol : Nat → Int32} {r : Nat} (hr : r < zrn s) (hn : zbn s r < 4) {G : Nat → Int32} {a : zA} (hG : zGt vCol G 25 (5 + 5 * zbn s r) a) (hk : ∀ j, j < 5 + 5 * zbn s r ∨ 5 + 5 * zbn s r + 4 ≤ j → G j = vRu r j) {b : Nat} {V : Nat → Nat → Int32} (hV : ∀ r', r' ≠ r → V r' = vRu r') (hVr : ∀ j, V r j = if j = 4 then nI (zbn s r + 1) else if j = 5 + 5 * zbn s r + 4 then nI b else G j) : zyR (zrat s r a.1 a.2.2.1 a.2.2.2.1 a.2.2.2.2 b) V := by
  have hrn := hs.1
  intro r' hr' j hj
  have e0 : zrn (zrat s r a.1 a.2.2.1 a.2.2.2.1 a.2.2.2.2 b) = zrn s := by
    show zrat s r _ _ _ _ _ 2654 = s 2654
    rw [zrat_at, if_neg (by unfold zhp; omega), if_neg (by unfold zbp zhp; omega), if_neg (by unfold zbp zhp; omega), if_neg (by unfold zbp zhp; omega), if_neg (by unfold zbp zhp; omega), if_neg (by unfold zbp zhp; omega)]
  rw [e0] at hr'
  obtain ⟨b1, b2, b3⟩ := hs.2 r' hr'
  by_cases g : r' = r
  · subst g
    have e1 : zbn (zrat s r' a.1 a.2.2.1 a.2.2.2.1 a.2.2.2.2 b) r' = zbn s r' + 1 := by
      show zrat s r' _ _ _ _ _ (zhp r' + 4) = _
      rw [zrat_at, if_pos rfl]
    rw [e1] at hj
    obtain ⟨_, _, _, g0, g1, g2, g3, _⟩ := hG
    rw [hVr, zrat_at]
    by_cases c1 : j = 4
    · rw [if_pos c1, if_pos (by omega)]
    · rw [if_neg c1, if_neg (show ¬ zhp r' + j = zhp r' + 4 by omega)]
      have ep : zbp r' (zbn s r') = zhp r' + (5 + 5 * zbn s r') := by unfold zbp; omega
      rw [ep]
      by_cases c2 : j = 5 + 5 * zbn s r' + 4
      · rw [if_pos c2, if_pos (by omega)]
      · rw [if_neg c2, if_neg (by omega)]
        by_cases c3 : j = 5 + 5 * zbn s r' + 3
        · rw [if_pos (by omega), c3]; exact g3
        · rw [if_neg (by omega)]
          by_cases c4 : j = 5 + 5 * zbn s r' + 2
          · rw [if_pos (by omega), c4]; exact g2
          · rw [if_neg (by omega)]
            by_cases c5 : j = 5 + 5 * zbn s r' + 1
            · rw [if_pos (by omega), c5]; exact g1
            · rw [if_neg (by omega)]
              by_cases c6 : j = 5 + 5 * zbn s r'
              · rw [if_pos (by omega), c6]; exact g0
              · rw [if_neg (by omega), hk j (by omega)]
                exact hR r' hr' j (by omega)
  · have hh : zhp r' = 2655 + 25 * r' := rfl
    have hh2 : zhp r = 2655 + 25 * r := rfl
    have hb2 : zbp r (zbn s r) = zhp r + 5 + 5 * zbn s r := rfl
    have keep : ∀ m, m < 25 → zrat s r a.1 a.2.2.1 a.2.2.2.1 a.2.2.2.2 b (zhp r' + m) = s (zhp r' + m) := by
      intro m hm
      rw [zrat_at, if_neg (by omega), if_neg (by omega), if_neg (by omega), if_neg (by omega), if_neg (by omega), if_neg (by omega)]
    have e1 : zbn (zrat s r a.1 a.2.2.1 a.2.2.2.1 a.2.2.2.2 b) r' = zbn s r' := keep 4 (by omega)
    rw [e1] at hj
    rw [hV r' g, keep j (by omega)]
    exact hR r' hr' j hj
theorem zyR_rad {s : Nat → Nat} {vRu : Nat → Nat → Int32} (hR : zyR s vRu) (hs : zRul s) {vCol : Nat → Int32} (hn : zrn s < 5) {G : Nat → Int32} {a : zA} (hG : zGt vCol G 25 0 a) {V : Nat → Nat → Int32} (hV : ∀ r', r' ≠ zrn s → V r' = vRu r') (hVr : ∀ j, V (zrn s) j = if j = 4 then 0 else G j) : zyR (zrad s a.1 a.2.2.1 a.2.2.2.1 a.2.2.2.2) V := by
  intro r' hr' j hj
  have e0 : zrn (zrad s a.1 a.2.2.1 a.2.2.2.1 a.2.2.2.2) = zrn s + 1 := by
    show zrad s _ _ _ _ 2654 = _
    rw [zrad_at, if_pos rfl]
  rw [e0] at hr'
  have hh2 : zhp (zrn s) = 2655 + 25 * zrn s := rfl
  by_cases g : r' = zrn s
  · subst g
    have e1 : zbn (zrad s a.1 a.2.2.1 a.2.2.2.1 a.2.2.2.2) (zrn s) = 0 := by
      show zrad s _ _ _ _ (zhp (zrn s) + 4) = _
      rw [zrad_at, if_neg (by omega), if_pos rfl]
    rw [e1] at hj
    obtain ⟨_, _, _, g0, g1, g2, g3, _⟩ := hG
    rw [hVr, zrad_at, if_neg (show ¬ zhp (zrn s) + j = 2654 by omega)]
    have : j = 0 ∨ j = 1 ∨ j = 2 ∨ j = 3 ∨ j = 4 := by omega
    rcases this with c | c | c | c | c <;> subst c
    · rw [if_neg (by omega), if_neg (by omega), if_neg (by omega), if_neg (by omega), if_neg (by omega), if_pos (by omega)]; exact g0
    · rw [if_neg (by omega), if_neg (by omega), if_neg (by omega), if_neg (by omega), if_pos (by omega)]; exact g1
    · rw [if_neg (by omega), if_neg (by omega), if_neg (by omega), if_pos (by omega)]; exact g2
    · rw [if_neg (by omega), if_neg (by omega), if_pos (by omega)]; exact g3
    · rw [if_pos rfl, if_pos (by omega)]; rfl
  · have hh : zhp r' = 2655 + 25 * r' := rfl
    obtain ⟨b1, b2, b3⟩ := hs.2 r' (by omega)
    have keep : ∀ m, m < 25 → zrad s a.1 a.2.2.1 a.2.2.2.1 a.2.2.2.2 (zhp r' + m) = s (zhp r' + m) := by
      intro m hm
      rw [zrad_at, if_neg (by omega), if_neg (by omega), if_neg (by omega), if_neg (by omega), if_neg (by omega), if_neg (by omega)]
    have e1 : zbn (zrad s a.1 a.2.2.1 a.2.2.2.1 a.2.2.2.2) r' = zbn s r' := keep 4 (by omega)
    rw [e1] at hj
    rw [hV r' g, keep j (by omega)]
    exact hR r' (by omega) j hj
/-- the atoms of a drawn rule -/
theorem zy_dr121 (K : Nat) (hK : 1000000 < K) {s0 : Nat → Nat} {vCol : Nat → Int32} (hT0 : 0 < s0 0) (r34 : Int32 → zObj → Int32 → (Nat → Nat → Int32) → (Nat → Int32) → Int64 → Option (Bool × zObj × Int32 × (Nat → Nat → Int32) × (Nat → Int32) × Int64)) (x3 : Int32) {r : Nat} : ∀ c n, c < n → ∀ {O : zObj} {s : Nat → Nat} {L : List (Nat → Nat)} {vRu : Nat → Nat → Int32} (vLa : Nat → Int32) (se : Int64), zI2 O s0 s L vCol vRu → zrn s = r + 1 → zbn s r + c ≤ 4 → ∃ O' s' L' vRu' vLa' se', hL_drawsRules_121 K (nI (s0 0)) vCol r34 n x3 (nI r) r (nI c) O (nI (r + 1)) vRu vLa se = r34 (x3 + (-1 : Int32)) O' (nI (r + 1)) vRu' vLa' se' ∧ zI2 O' s0 s' L' vCol vRu' ∧ zrn s' = r + 1 := by
  intro c
  induction c with
  | zero =>
    intro n hn O s L vRu vLa se h hrs hb
    obtain ⟨n, rfl⟩ : ∃ z, n = z + 1 := ⟨n - 1, by omega⟩
    refine ⟨O, s, L, vRu, vLa, se, ?_, h, hrs⟩
    rw [hL_drawsRules_121, if_pos (show nI 0 ≤ 0 by decide)]
  | succ c ih =>
    intro n hn O s L vRu vLa se h hrs hb
    obtain ⟨n, rfl⟩ : ∃ z, n = z + 1 := ⟨n - 1, by omega⟩
    obtain ⟨h1, h2, h3, h4, hVr⟩ := h
    have hW := h1.1
    have hs := hW.2.2.2.2.2.2.1
    have hrn := hs.1
    have hr5 : r < 5 := by omega
    have hr : r < zrn s := by omega
    have hn4 : zbn s r < 4 := by omega
    have hs00 : s 0 = s0 0 := h4 0 (by omega)
    have hdec : nI (c + 1) + (-1) = nI c := zi_dec c
    have c4 : (4 : Int32).toNatClampNeg = 4 := zy_c4
    have i4 : inB (4 : Int32) 25 = true := by decide
    obtain ⟨v, se1, hv, e1⟩ := zy_next K (show 0 < 2 by omega) (by omega) se
    have e1' : hX12_next K (2 : Int32) se = some (nI v, se1) := e1
    obtain ⟨se2, G, a, e2, hG, ha1, ha2, hav, hGk⟩ := zy_laysAtom K (by omega) hW (by omega) h2 (nG := 25) (p := 5 + 5 * zbn s r) (m := 3 + v) (by omega) (by omega) (by omega) (by omega) se1 (vRu r)
    rw [hs00] at e2
    obtain ⟨w, se3, hw, e3⟩ := zy_next K (show 0 < 4 by omega) (by omega) se2
    have e3' : hX12_next K (4 : Int32) se2 = some (nI w, se3) := e3
    have hav4 : zvl 4 a.2.1 a.2.2.1 a.2.2.2.1 a.2.2.2.2 := by
      obtain ⟨p1, p2, p3⟩ := hav
      refine ⟨by omega, ?_, ?_⟩
      · split
        · rename_i g; rw [if_pos g] at p2; omega
        · rename_i g; rw [if_neg g] at p2; exact p2
      · split
        · rename_i g; rw [if_pos g] at p3; omega
        · rename_i g; rw [if_neg g] at p3; exact p3
    have hat : (5 : Int32) + ((5 : Int32) * (vRu r 4)) = nI (5 + 5 * zbn s r) := by rw [zyR_n h3 hr, show (5 : Int32) = nI 5 from rfl, zi_mul, zi_add]
    have e45 : nI (5 + 5 * zbn s r) + (4 : Int32) = nI (5 + 5 * zbn s r + 4) := by rw [show (4 : Int32) = nI 4 from rfl, zi_add]
    -- with the flag
    have body : ∀ b : Bool, ∃ O' s' L' vRu' vLa' se', hL_drawsRules_171 K (nI (s0 0)) vCol r34 (hL_drawsRules_121 K (nI (s0 0)) vCol r34 n) x3 (nI r) r (nI (c + 1)) (nI (5 + 5 * zbn s r)) r (nI (5 + 5 * zbn s r + 4)) (bI b) O (nI (r + 1)) (zup vRu r G) vLa se3 = r34 (x3 + (-1 : Int32)) O' (nI (r + 1)) vRu' vLa' se' ∧ zI2 O' s0 s' L' vCol vRu' ∧ zrn s' = r + 1 := by
      intro b
      have hb01 : b.toNat ≤ 1 := Bool.toNat_le b
      obtain ⟨V3, hV3⟩ : ∃ V, V = zup (zup (zup vRu r G) r (upd ((zup vRu r G) r) (5 + 5 * zbn s r + 4) (bI b))) r (upd ((zup (zup vRu r G) r (upd ((zup vRu r G) r) (5 + 5 * zbn s r + 4) (bI b))) r) 4 (((zup (zup vRu r G) r (upd ((zup vRu r G) r) (5 + 5 * zbn s r + 4) (bI b))) r) 4 + (1 : Int32))) := ⟨_, rfl⟩
      have hV3r : ∀ j, V3 r j = if j = 4 then nI (zbn s r + 1) else if j = 5 + 5 * zbn s r + 4 then nI b.toNat else G j := by
        intro j
        rw [hV3, zq_at, if_pos rfl, zu_at, zq_at, if_pos rfl, zu_at, zu_at, zq_at, if_pos rfl]
        by_cases g : j = 4
        · rw [if_pos g, if_pos g, if_neg (by omega), hGk 4 (by omega), zyR_n h3 hr, ← nI_succ]
        · rw [if_neg g, if_neg g, zy_bI]
      have hV3o : ∀ r', r' ≠ r → V3 r' = vRu r' := by
        intro r' g
        rw [hV3, zq_at, if_neg g, zq_at, if_neg g, zq_at, if_neg g]
      have hR3 := zyR_rat h3 hs hr hn4 hG hGk (b := b.toNat) hV3o hV3r
      have hx := hG.2.2.1
      have hRul3 := zrat_Rul (v := b.toNat) hW hr hn4 ha1 hx.2.2.2.1 hx.2.2.2.2.1 hx.2.2.2.2.2 hb01
      have hrn3 : zrn (zrat s r a.1 a.2.2.1 a.2.2.2.1 a.2.2.2.2 b.toNat) = r + 1 := by
        have := (zrat_facts (x := a.2.2.1) (y := a.2.2.2.1) (z := a.2.2.2.2) (v := b.toNat) hW hr hn4 ha1).1 2654 (by omega)
        show zrat s r _ _ _ _ _ 2654 = _
        rw [this]
        exact hrs
      have hlow3 : ∀ i, i < 2654 → zrat s r a.1 a.2.2.1 a.2.2.2.1 a.2.2.2.2 b.toNat i = s0 i := by
        intro i hi
        rw [(zrat_facts (x := a.2.2.1) (y := a.2.2.2.1) (z := a.2.2.2.2) (v := b.toNat) hW hr hn4 ha1).1 i (by omega)]
        exact h4 i hi
      obtain ⟨can, vLa2, ef, hcan, _⟩ := zy_findsLayers K (by omega) hRul3 hR3 vLa
      rw [hrn3] at ef
      have hb3 : zbn (zrat s r a.1 a.2.2.1 a.2.2.2.1 a.2.2.2.2 b.toNat) r = zbn s r + 1 := by
        show zrat s r _ _ _ _ _ (zhp r + 4) = _
        rw [zrat_at, if_pos rfl]
      have V3a : V3 r (5 + 5 * zbn s r + 4) = bI b := by
        rw [hV3r, if_neg (by omega), if_pos rfl, zy_bI]
      have hG3 : zGt vCol (V3 r) 25 (5 + 5 * zbn s r) a := by
        obtain ⟨g1, g2, g3, g4, g5, g6, g7, g8⟩ := hG
        refine ⟨g1, g2, g3, ?_, ?_, ?_, ?_, g8⟩
        · rw [hV3r, if_neg (by omega), if_neg (by omega)]; exact g4
        · rw [hV3r, if_neg (by omega), if_neg (by omega)]; exact g5
        · rw [hV3r, if_neg (by omega), if_neg (by omega)]; exact g6
        · rw [hV3r, if_neg (by omega), if_neg (by omega)]; exact g7
      have hu171 : hL_drawsRules_171 K (nI (s0 0)) vCol r34 (hL_drawsRules_121 K (nI (s0 0)) vCol r34 n) x3 (nI r) r (nI (c + 1)) (nI (5 + 5 * zbn s r)) r (nI (5 + 5 * zbn s r + 4)) (bI b) O (nI (r + 1)) (zup vRu r G) vLa se3 = if bI can = 0 then hL_drawsRules_199 K (nI (s0 0)) vCol r34 (hL_drawsRules_121 K (nI (s0 0)) vCol r34 n) x3 (nI r) r (nI (c + 1)) (nI (5 + 5 * zbn s r)) (bI can) O (nI (r + 1)) (zup V3 r (upd (V3 r) 4 (V3 r 4 - (1 : Int32)))) vLa2 se3 else hL_drawsRules_199 K (nI (s0 0)) vCol r34 (hL_drawsRules_121 K (nI (s0 0)) vCol r34 n) x3 (nI r) r (nI (c + 1)) (nI (5 + 5 * zbn s r)) (bI can) O (nI (r + 1)) V3 vLa2 se3 := by
        unfold hL_drawsRules_171
        rw [if_pos hr5, if_pos (zy_i25 (by omega)), if_pos hr5, if_pos i4, if_pos i4, c4, zi_clamp (show 5 + 5 * zbn s r + 4 < 2147483648 by omega), ← hV3, ef, Option.bind_some, if_pos i4, if_pos i4]
      rw [hu171]
      unfold hL_drawsRules_199
      rw [if_pos hr5, if_pos hr5]
      cases hcc : can
      · -- refused
        have hV4r : ∀ j, (zup V3 r (upd (V3 r) 4 (V3 r 4 - (1 : Int32)))) r j = if j = 4 then nI (zbn s r) else V3 r j := by
          intro j
          rw [zq_at, if_pos rfl, zu_at]
          by_cases g : j = 4
          · rw [if_pos g, if_pos g, hV3r, if_pos rfl, show (1 : Int32) = nI 1 from rfl, zi_sub (by omega)]; rfl
          · rw [if_neg g, if_neg g]
        have hG4 : zGt vCol ((zup V3 r (upd (V3 r) 4 (V3 r 4 - (1 : Int32)))) r) 25 (5 + 5 * zbn s r) a := by
          obtain ⟨g1, g2, g3, g4, g5, g6, g7, g8⟩ := hG3
          refine ⟨g1, g2, g3, ?_, ?_, ?_, ?_, g8⟩
          · rw [hV4r, if_neg (by omega)]; exact g4
          · rw [hV4r, if_neg (by omega)]; exact g5
          · rw [hV4r, if_neg (by omega)]; exact g6
          · rw [hV4r, if_neg (by omega)]; exact g7
        obtain ⟨can2, O1, hc2, eA, hO⟩ := zy_addRuleAtom K hK h1 hG4 (by omega) (b := b) (by rw [hV4r, if_neg (by omega)]; exact V3a) hr hn4 ha1 ha2 hav4
        have hcf : can2 = false := by
          rw [← Bool.not_eq_true]
          intro g
          have := hcan.2 (hc2.1 g)
          rw [hcc] at this
          cases this
        subst hcf
        rw [if_neg (show ¬ false = true by decide)] at eA
        rw [if_neg (show ¬ false = true by decide), if_neg (show ¬ false = true by decide)] at hO
        have hR4 : zyR s (zup V3 r (upd (V3 r) 4 (V3 r 4 - (1 : Int32)))) := by
          intro r' hr' j hj
          obtain ⟨b1, b2, b3⟩ := hs.2 r' hr'
          by_cases g : r' = r
          · subst g
            rw [hV4r]
            by_cases gj : j = 4
            · rw [if_pos gj, gj]; rfl
            · rw [if_neg gj, hV3r, if_neg gj, if_neg (by omega), hGk j (by omega)]
              exact h3 r' hr' j hj
          · rw [zq_at, if_neg g, hV3o r' g]
            exact h3 r' hr' j hj
        obtain ⟨O2, s2, L2, vRu2, vLa3, se4, e, hI, hr2⟩ := ih n (by omega) vLa2 se3 ⟨hO, h2, hR4, h4, hVr⟩ hrs (by omega)
        refine ⟨O2, s2, L2, vRu2, vLa3, se4, ?_, hI, hr2⟩
        rw [if_pos (show bI false = 0 from rfl), eA, Option.bind_some, if_pos (show bI false = 0 from rfl)]
        unfold hL_drawsRules_222
        rw [if_pos (show (-1 : Int32) = -1 from rfl), hdec]
        exact e
      · -- taken
        obtain ⟨can2, O1, hc2, eA, hO⟩ := zy_addRuleAtom K hK h1 hG3 (by omega) (b := b) V3a hr hn4 ha1 ha2 hav4
        have hct : can2 = true := hc2.2 (hcan.1 hcc)
        subst hct
        rw [if_pos (show true = true from rfl)] at eA
        rw [if_pos (show true = true from rfl), if_pos (show true = true from rfl)] at hO
        obtain ⟨O2, s2, L2, vRu2, vLa3, se4, e, hI, hr2⟩ := ih n (by omega) vLa2 se3 ⟨hO, zyC_low h2 (fun i hi => (hlow3 i hi).trans (h4 i hi).symm), hR3, hlow3, zVr_rat hW hVr hr hn4 ha1 (by show zvl 4 (s (1 + a.1)) _ _ _; rw [← ha2]; exact hav4)⟩ hrn3 (by rw [hb3]; omega)
        refine ⟨O2, s2, L2, vRu2, vLa3, se4, ?_, hI, hr2⟩
        have hV34 : V3 r 4 = nI (zbn s r + 1) := by rw [hV3r, if_pos rfl]
        rw [if_neg (show ¬ bI true = 0 by decide), eA, Option.bind_some, if_neg (show ¬ bI true = 0 by decide), if_pos i4, c4, hV34]
        unfold hL_drawsRules_222
        rw [if_pos rfl, hdec]
        exact e
    by_cases gw : w = 0
    · obtain ⟨O', s', L', vRu', vLa', se', e, hI⟩ := body true
      refine ⟨O', s', L', vRu', vLa', se', ?_, hI⟩
      rw [hL_drawsRules_121, if_neg (show ¬ nI (c + 1) ≤ 0 by rw [show (0 : Int32) = nI 0 from rfl, zi_le (by omega) (by omega)]; omega), if_pos hr5, if_pos i4, e1', Option.bind_some, c4, hat, show (3 : Int32) + nI v = nI (3 + v) by rw [show (3 : Int32) = nI 3 from rfl, zi_add], e2, Option.bind_some, e3', Option.bind_some, if_pos (by rw [gw]; rfl), e45]
      exact e
    · obtain ⟨O', s', L', vRu', vLa', se', e, hI⟩ := body false
      refine ⟨O', s', L', vRu', vLa', se', ?_, hI⟩
      rw [hL_drawsRules_121, if_neg (show ¬ nI (c + 1) ≤ 0 by rw [show (0 : Int32) = nI 0 from rfl, zi_le (by omega) (by omega)]; omega), if_pos hr5, if_pos i4, e1', Option.bind_some, c4, hat, show (3 : Int32) + nI v = nI (3 + v) by rw [show (3 : Int32) = nI 3 from rfl, zi_add], e2, Option.bind_some, e3', Option.bind_some, if_neg (by rw [show (0 : Int32) = nI 0 from rfl, zi_eq (by omega) (by omega)]; exact gw), e45]
      exact e
theorem zy_dr34 (K : Nat) (hK : 1000000 < K) {s0 : Nat → Nat} {vCol : Nat → Int32} (hT0 : 0 < s0 0) : ∀ c n, c < n → c < 1000 → ∀ {O : zObj} {s : Nat → Nat} {L : List (Nat → Nat)} {vRu : Nat → Nat → Int32} (vLa : Nat → Int32) (se : Int64), zI2 O s0 s L vCol vRu → ∃ O' s' L' vRu' vLa' se', hL_drawsRules_34 K (nI (s0 0)) vCol n (nI c) O (nI (zrn s)) vRu vLa se = some (true, O', nI (zrn s'), vRu', vLa', se') ∧ zI2 O' s0 s' L' vCol vRu' := by
  intro c
  induction c with
  | zero =>
    intro n hn hc5 O s L vRu vLa se h
    obtain ⟨n, rfl⟩ : ∃ z, n = z + 1 := ⟨n - 1, by omega⟩
    refine ⟨O, s, L, vRu, vLa, se, ?_, h⟩
    rw [hL_drawsRules_34, if_pos (show nI 0 ≤ 0 by decide)]
  | succ c ih =>
    intro n hn hc5 O s L vRu vLa se h
    obtain ⟨n, rfl⟩ : ∃ z, n = z + 1 := ⟨n - 1, by omega⟩
    have h0 := h
    obtain ⟨h1, h2, h3, h4, hVr⟩ := h
    have hW := h1.1
    have hs := hW.2.2.2.2.2.2.1
    have hrn := hs.1
    have hs00 : s 0 = s0 0 := h4 0 (by omega)
    have nle : ¬ nI (c + 1) ≤ 0 := by rw [show (0 : Int32) = nI 0 from rfl, zi_le (by omega) (by omega)]; omega
    by_cases g5 : zrn s = 5
    · refine ⟨O, s, L, vRu, vLa, se, ?_, h0⟩
      rw [hL_drawsRules_34, if_neg nle, if_pos (show (5 : Int32) ≤ nI (zrn s) by rw [g5]; decide)]
    · have hr5 : zrn s < 5 := by omega
      obtain ⟨se1, G, a, e1, hG, ha1, ha2, hav, hGk⟩ := zy_laysAtom K (by omega) hW (by omega) h2 (nG := 25) (p := 0) (m := 3) (by omega) (by omega) (by omega) (by omega) se (vRu (zrn s))
      rw [hs00] at e1
      have e1' : hL_laysAtom K 25 (nI (s0 0)) vCol (0 : Int32) (3 : Int32) se (vRu (zrn s)) = some (se1, G) := e1
      have hav4 : zvl 4 (s (1 + a.1)) a.2.2.1 a.2.2.2.1 a.2.2.2.2 := by
        obtain ⟨p1, p2, p3⟩ := hav
        rw [← ha2]
        refine ⟨by omega, ?_, ?_⟩
        · split
          · rename_i g; rw [if_pos g] at p2; omega
          · rename_i g; rw [if_neg g] at p2; exact p2
        · split
          · rename_i g; rw [if_pos g] at p3; omega
          · rename_i g; rw [if_neg g] at p3; exact p3
      obtain ⟨O1, e2, hO⟩ := zd_addRule K hK h1 hr5 ha1 hav4
      obtain ⟨V, hV⟩ : ∃ V, V = zup (zup vRu (zrn s) G) (zrn s) (upd ((zup vRu (zrn s) G) (zrn s)) 4 (0 : Int32)) := ⟨_, rfl⟩
      have hVz : ∀ j, V (zrn s) j = if j = 4 then 0 else G j := by
        intro j
        rw [hV, zq_at, if_pos rfl, zu_at, zq_at, if_pos rfl]
      have hVo : ∀ r', r' ≠ zrn s → V r' = vRu r' := by
        intro r' g
        rw [hV, zq_at, if_neg g, zq_at, if_neg g]
      have hR1 := zyR_rad h3 hs hr5 hG hVo hVz
      have hrn1 : zrn (zrad s a.1 a.2.2.1 a.2.2.2.1 a.2.2.2.2) = zrn s + 1 := by
        show zrad s _ _ _ _ 2654 = _
        rw [zrad_at, if_pos rfl]
      have hb1 : zbn (zrad s a.1 a.2.2.1 a.2.2.2.1 a.2.2.2.2) (zrn s) = 0 := by
        show zrad s _ _ _ _ (zhp (zrn s) + 4) = _
        rw [zrad_at, if_neg (by unfold zhp; omega), if_pos rfl]
      have hlow : ∀ i, i < 2654 → zrad s a.1 a.2.2.1 a.2.2.2.1 a.2.2.2.2 i = s i := by
        intro i hi
        rw [zrad_at, if_neg (by omega), if_neg (by unfold zhp; omega), if_neg (by unfold zhp; omega), if_neg (by unfold zhp; omega), if_neg (by unfold zhp; omega), if_neg (by unfold zhp; omega)]
      obtain ⟨v, se2, hv, e3⟩ := zy_next K (show 0 < 3 by omega) (by omega) se1
      have e3' : hX12_next K (3 : Int32) se1 = some (nI v, se2) := e3
      obtain ⟨O2, s2, L2, vRu2, vLa2, se3, e4, hI2, hr2⟩ := zy_dr121 K hK hT0 (hL_drawsRules_34 K (nI (s0 0)) vCol n) (nI (c + 1)) (r := zrn s) (1 + v) 5 (by omega) vLa se2 ⟨hO, zyC_low h2 hlow, hR1, fun i hi => (hlow i hi).trans (h4 i hi), zVr_rad hW hVr hr5 ha1 hav4⟩ hrn1 (by rw [hb1]; omega)
      have hdec : nI (c + 1) + (-1) = nI c := zi_dec c
      obtain ⟨O3, s3, L3, vRu3, vLa3, se4, e5, hI3⟩ := ih n (by omega) (by omega) vLa2 se3 hI2
      rw [hr2] at e5
      refine ⟨O3, s3, L3, vRu3, vLa3, se4, ?_, hI3⟩
      obtain ⟨_, _, _, g0, g1, g2, g3, _⟩ := hG
      have V0 : V (zrn s) 0 = nI a.1 := by rw [hVz, if_neg (by omega)]; exact g0
      have V1 : V (zrn s) 1 = nI a.2.2.1 := by rw [hVz, if_neg (by omega)]; exact g1
      have V2 : V (zrn s) 2 = nI a.2.2.2.1 := by rw [hVz, if_neg (by omega)]; exact g2
      have V3 : V (zrn s) 3 = nI a.2.2.2.2 := by rw [hVz, if_neg (by omega)]; exact g3
      rw [hL_drawsRules_34, if_neg nle, if_neg (show ¬ (5 : Int32) ≤ nI (zrn s) by rw [show (5 : Int32) = nI 5 from rfl, zi_le (by omega) (by omega)]; omega), if_pos (zy_i5 hr5), zi_clamp (show zrn s < 2147483648 by omega), e1', Option.bind_some, if_pos (show inB (4 : Int32) 25 = true by decide), if_pos (show inB (0 : Int32) 25 = true by decide), if_pos (show inB (1 : Int32) 25 = true by decide), if_pos (show inB (2 : Int32) 25 = true by decide), if_pos (show inB (3 : Int32) 25 = true by decide)]
      dsimp only
      rw [zy_c4, ← hV, zy_c0, show (1 : Int32).toNatClampNeg = 1 by decide, show (2 : Int32).toNatClampNeg = 2 by decide, show (3 : Int32).toNatClampNeg = 3 by decide, V0, V1, V2, V3, e2, Option.bind_some, if_pos rfl, e3', Option.bind_some, show (1 : Int32) + nI v = nI (1 + v) by rw [show (1 : Int32) = nI 1 from rfl, zi_add], ← nI_succ]
      refine e4.trans ?_
      rw [hdec]
      exact e5
theorem zcs_rules : ∀ j : Fin 40, zcs19 (2655 + j.val) = (if j.val = 0 then 1 else if j.val = 2 then 1 else if j.val = 4 then 1 else if j.val = 7 then 1 else if j.val = 25 then 1 else if j.val = 27 then 2 else if j.val = 29 then 2 else if j.val = 30 then 1 else if j.val = 32 then 1 else if j.val = 36 then 1 else if j.val = 37 then 2 else 0) := by decide +kernel
theorem zVr_first {s : Nat → Nat} (hs : ∀ i, 2566 ≤ i → i < 2780 → s i = zcs19 i) (h1 : s 1 = 2) (h2 : s 2 = 2) : zVr s := by
  obtain ⟨f1, f2, f3⟩ := zy_firstN
  have hn : zrn s = 2 := by show s 2654 = 2; rw [hs _ (by omega) (by omega)]; exact f1
  have c : ∀ j, j < 40 → s (2655 + j) = (if j = 0 then 1 else if j = 2 then 1 else if j = 4 then 1 else if j = 7 then 1 else if j = 25 then 1 else if j = 27 then 2 else if j = 29 then 2 else if j = 30 then 1 else if j = 32 then 1 else if j = 36 then 1 else if j = 37 then 2 else 0) := by
    intro j hj
    rw [hs _ (by omega) (by omega)]
    exact zcs_rules ⟨j, hj⟩
  have at2 : ∀ {p t x y z : Nat}, s p = t → s (p + 1) = x → s (p + 2) = y → s (p + 3) = z → s (1 + t) = 2 → x < 4 → y < 4 → z = 0 → zvA (zat s p) := by
    intro p t x y z e0 e1 e2 e3 ew hx hy hz
    show zvl 4 (s (1 + s p)) (s (p + 1)) (s (p + 2)) (s (p + 3))
    rw [e0, e1, e2, e3, ew]
    exact ⟨hx, by rw [if_pos (by omega)]; exact hy, by rw [if_neg (by omega)]; exact hz⟩
  have b0 : zbn s 0 = 1 := c 4 (by omega)
  have b1 : zbn s 1 = 2 := c 29 (by omega)
  intro r hr
  rw [hn] at hr
  have : r = 0 ∨ r = 1 := by omega
  rcases this with e | e <;> subst e
  · refine ⟨at2 (c 0 (by omega)) (c 1 (by omega)) (c 2 (by omega)) (c 3 (by omega)) h2 (by decide) (by decide) rfl, ?_⟩
    intro i hi
    rw [b0] at hi
    have : i = 0 := by omega
    subst this
    exact at2 (c 5 (by omega)) (c 6 (by omega)) (c 7 (by omega)) (c 8 (by omega)) h1 (by decide) (by decide) rfl
  · refine ⟨at2 (c 25 (by omega)) (c 26 (by omega)) (c 27 (by omega)) (c 28 (by omega)) h2 (by decide) (by decide) rfl, ?_⟩
    intro i hi
    rw [b1] at hi
    have : i = 0 ∨ i = 1 := by omega
    rcases this with e | e <;> subst e
    · exact at2 (c 30 (by omega)) (c 31 (by omega)) (c 32 (by omega)) (c 33 (by omega)) h2 (by decide) (by decide) rfl
    · exact at2 (c 35 (by omega)) (c 36 (by omega)) (c 37 (by omega)) (c 38 (by omega)) h1 (by decide) (by decide) rfl
theorem zy_drawsRules (K : Nat) (hK : 1000000 < K) {O : zObj} {s : Nat → Nat} {L : List (Nat → Nat)} {vCol : Nat → Int32} (h : zIc O s L) (hC : zyC s vCol) (hs19 : ∀ i, 2566 ≤ i → i < 2780 → s i = zcs19 i) (hw3 : 3 ≤ s 0 ∧ s 1 = 2 ∧ s 2 = 2) (vRc : Int32) (vRu : Nat → Nat → Int32) (vLa : Nat → Int32) (se : Int64) : ∃ O' s' L' vRu' vLa' se', hL_drawsRules K (nI (s 0)) vCol O vRc vRu vLa se = some (true, O', nI (zrn s'), vRu', vLa', se') ∧ zI2 O' s s' L' vCol vRu' := by
  have hT : 0 < s 0 := by omega
  have hVr := zVr_first hs19 hw3.2.1 hw3.2.2
  obtain ⟨vRu1, ef, hR⟩ := zy_firstRules K hs19 vRc vRu
  obtain ⟨v, se1, hv, e1⟩ := zy_next K (show 0 < 3 by omega) (by omega) se
  have e1' : hX12_next K (3 : Int32) se = some (nI v, se1) := e1
  have hn : zrn s = 2 := by show s 2654 = 2; rw [hs19 _ (by omega) (by omega)]; exact zy_firstN.1
  have h28 : ∀ {O1 : zObj} {s1 : Nat → Nat} {L1 : List (Nat → Nat)} (se1 : Int64), zI2 O1 s s1 L1 vCol vRu1 → ∃ O' s' L' vRu' vLa' se', hL_drawsRules_28 K (nI (s 0)) vCol O1 (nI (zrn s1)) vRu1 vLa se1 = some (true, O', nI (zrn s'), vRu', vLa', se') ∧ zI2 O' s s' L' vCol vRu' := by
    intro O1 s1 L1 se1 hI
    obtain ⟨w, se2, hw, e2⟩ := zy_next K (show 0 < 4 by omega) (by omega) se1
    have e2' : hX12_next K (4 : Int32) se1 = some (nI w, se2) := e2
    obtain ⟨O', s', L', vRu', vLa', se', e, hI'⟩ := zy_dr34 K hK hT w 5 (by omega) (by omega) vLa se2 hI
    refine ⟨O', s', L', vRu', vLa', se', ?_, hI'⟩
    unfold hL_drawsRules_28
    rw [e2', Option.bind_some]
    exact e
  unfold hL_drawsRules
  rw [ef, Option.bind_some, e1', Option.bind_some]
  by_cases g : v = 0
  · obtain ⟨O1, e2, hO⟩ := zd_dropRule K hK h (u := 1) (by omega)
    rw [hn] at e2
    have e2' : hX11_dropRule K O (1 : Int32) = some ((1 : Int32), O1) := e2
    have hdn : zrn (zdrop s 1) = 1 := by
      show zdrop s 1 2654 = 1
      unfold zdrop
      rw [if_pos rfl]
      have : s 2654 = 2 := hn
      omega
    have hlow : ∀ i, i < 2680 → i ≠ 2654 → zdrop s 1 i = s i := by
      intro i hi h2
      unfold zdrop
      rw [if_neg h2, if_neg (by unfold zhp; omega)]
    have hRd : zyR (zdrop s 1) vRu1 := by
      intro r hr j hj
      rw [hdn] at hr
      have hr0 : r = 0 := by omega
      subst hr0
      have hb : zbn (zdrop s 1) 0 = zbn s 0 := hlow _ (by unfold zhp; omega) (by unfold zhp; omega)
      rw [hb] at hj
      have hb4 := (h.1.2.2.2.2.2.2.1.2 0 (by omega)).2.1
      have h01 : zbn s 0 = 1 := by show s 2659 = 1; rw [hs19 _ (by omega) (by omega)]; exact zy_firstN.2.1
      rw [hlow _ (by unfold zhp; omega) (by unfold zhp; omega)]
      exact hR 0 (by omega) j hj
    obtain ⟨O', s', L', vRu', vLa', se', e, hI⟩ := h28 se1 ⟨hO, zyC_low hC (fun i hi => hlow i (by omega) (by omega)), hRd, fun i hi => hlow i (by omega) (by omega), zVr_drop h.1 hVr (by omega)⟩
    refine ⟨O', s', L', vRu', vLa', se', ?_, hI⟩
    rw [if_pos (by rw [g]; rfl), e2', Option.bind_some, if_pos rfl]
    rw [hdn] at e
    exact e
  · obtain ⟨O', s', L', vRu', vLa', se', e, hI⟩ := h28 se1 ⟨h, hC, hR, fun i _ => rfl, hVr⟩
    refine ⟨O', s', L', vRu', vLa', se', ?_, hI⟩
    rw [if_neg (by rw [show (0 : Int32) = nI 0 from rfl, zi_eq (by omega) (by omega)]; exact g)]
    rw [hn] at e
    exact e
