/-! changes of rules -/
theorem zWF_rules {wd : Nat → Int32} {fa : Nat → Int64} {od hd : Nat → Int32} {qc : Nat → Nat → Int32} {qs : Nat → Int32} {bc : Nat → Nat → Int32} {bs : Nat → Int32} {tt rt : Int32} {s s' : Nat → Nat} (hW : zWF s) (hS : zSR wd fa od hd qc qs bc bs tt rt s)
    (h : ∀ i, i < 2654 → s' i = s i) (hR : zRul s') (hr : ∀ r, r < zrn s' → (zrh s' r).1 < s 0 ∧ ∀ i, i < zbn s' r → (zba s' r i).1 < s 0) (hSt : ∃ S, zStb (zE s') S)
    {hd' : Nat → Int32} {bc' : Nat → Nat → Int32} {bs' : Nat → Int32} {rt' : Int32} (hc : zRc hd' bc' bs' rt' s') :
    zWF s' ∧ zSR wd fa od hd' qc qs bc' bs' tt rt' s' := by
  have h0 : s' 0 = s 0 := h 0 (by omega)
  have h5 := hW.1
  have hT : zsmT s s' := ⟨by omega, fun t ht => h _ (by omega)⟩
  have hQ : ∀ u, u < 4 → zsmQ s s' u := fun u hu => zsmQ_of hW hT hu (fun i h1 h2 => h i (by omega)) (h _ (by omega))
  obtain ⟨w, e⟩ := zWF_mk hW hT (by omega) (fun t ht => by
    rw [h0] at ht
    rw [hT.2 t ht]; exact hW.2.1 t ht) (fun i hi => h _ (by omega)) (fun u hu => zWq_same hT.1 (hQ u hu) (hW.2.2.2.2.2.1 u hu)) hR (by rw [h0]; exact hr) hSt
  refine ⟨w, ?_⟩
  obtain ⟨a1, a2, a3, a4, a5, a6⟩ := hS
  refine ⟨by rw [h0]; exact a1, fun t ht => ?_, fun t k ht hk => by rw [a3 t k ht hk, e t k ht hk], fun u hu => by rw [(hQ u hu).2.1]; exact a4 u hu, fun u hu => zqs_same (hQ u hu) (a5 u hu), hc⟩
  rw [h0] at ht
  rw [hT.2 t ht]; exact a2 t ht
/-- a rule as it was -/
theorem zrule_same {s s' : Nat → Nat} (hW : zWF s) (hT : zsmT s s') {r : Nat} (hr : r < zrn s) (h : ∀ i, zhp r ≤ i → i < zhp r + 25 → s' i = s i) : zrh s' r = zrh s r ∧ zbn s' r = zbn s r ∧ ∀ i, i < zbn s r → zba s' r i = zba s r i ∧ s' (zbp r i + 4) = s (zbp r i + 4) := by
  obtain ⟨w1, w2⟩ := hW.2.2.2.2.2.2.2.1 r hr
  obtain ⟨v1, v2, v3⟩ := hW.2.2.2.2.2.2.1.2 r hr
  refine ⟨zat_same hT w1 (fun i hi => h _ (by omega) (by omega)), h _ (by omega) (by omega), ?_⟩
  intro i hi
  have hb : zbp r i = zhp r + 5 + 5 * i := rfl
  exact ⟨zat_same hT (w2 i hi) (fun j hj => h _ (by omega) (by omega)), h _ (by omega) (by omega)⟩
theorem zWF_rule {wd : Nat → Int32} {fa : Nat → Int64} {od hd : Nat → Int32} {qc : Nat → Nat → Int32} {qs : Nat → Int32} {bc : Nat → Nat → Int32} {bs : Nat → Int32} {tt rt : Int32} {s s' : Nat → Nat} (hW : zWF s) (hS : zSR wd fa od hd qc qs bc bs tt rt s) {t x y z : Nat} (hn : zrn s < 5) (ht : t < s 0) (hx : x < 4) (hy : y < 4) (hz : z < 4)
    (hs' : s' = zup (zup (zlay s (zhp (zrn s)) t x y z) (zhp (zrn s) + 4) 0) 2654 (zrn s + 1)) :
    zWF s' ∧ zSR wd fa od (upd hd (zrn s) (nI (zaC (t, s (1 + t), x, y, z) false))) qc qs bc (zup bs (zrn s) (nI 0)) tt (nI (zrn s + 1)) s' := by
  have h5 := hW.1
  obtain ⟨c1, c3⟩ := hW.2.1 t ht
  have hp : zhp (zrn s) = 2655 + 25 * zrn s := rfl
  have hcnt : zrn s' = zrn s + 1 := by show s' 2654 = _; rw [hs', zup_at]
  have hne : ∀ i, i ≠ 2654 → (i < zhp (zrn s) ∨ zhp (zrn s) + 5 ≤ i) → s' i = s i := fun i g1 g2 => by rw [hs', zup_ne _ _ g1, zup_ne _ _ (by omega), zlay_ne s (by omega)]
  have hla := zlay_at s (zhp (zrn s)) t x y z
  have hl : ∀ j, j < 4 → s' (zhp (zrn s) + j) = zlay s (zhp (zrn s)) t x y z (zhp (zrn s) + j) := fun j hj => by rw [hs', zup_ne _ _ (by omega), zup_ne _ _ (by omega)]
  have hb0 : zbn s' (zrn s) = 0 := by show s' (zhp (zrn s) + 4) = 0; rw [hs', zup_ne _ _ (by omega), zup_at]
  have hT : zsmT s s' := ⟨by rw [hne 0 (by omega) (by omega)]; exact Nat.le_refl _, fun t ht => hne _ (by omega) (by omega)⟩
  have hnew : zrh s' (zrn s) = (t, s (1 + t), x, y, z) := by
    have e0 := hl 0 (by omega)
    have e1 := hl 1 (by omega)
    have e2 := hl 2 (by omega)
    have e3 := hl 3 (by omega)
    rw [Nat.add_zero, hla.1] at e0
    rw [hla.2.1] at e1
    rw [hla.2.2.1] at e2
    rw [hla.2.2.2] at e3
    unfold zrh zat
    rw [e0, e1, e2, e3, hT.2 t ht]
  have hok : zaOK (t, s (1 + t), x, y, z) := ⟨by show t < 5; omega, c1, c3, hx, hy, hz⟩
  have hold : ∀ r, r < zrn s → zrh s' r = zrh s r ∧ zbn s' r = zbn s r ∧ ∀ i, i < zbn s r → zba s' r i = zba s r i ∧ s' (zbp r i + 4) = s (zbp r i + 4) := by
    intro r hr
    have hpr : zhp r = 2655 + 25 * r := rfl
    exact zrule_same hW hT hr (fun i h1 h2 => hne i (by omega) (by omega))
  have hR : zRul s' := by
    refine ⟨by omega, ?_⟩
    intro r hr
    rw [hcnt] at hr
    rcases Nat.lt_or_ge r (zrn s) with g | g
    · obtain ⟨a1, a2, a3⟩ := hold r g
      obtain ⟨b1, b2, b3⟩ := hW.2.2.2.2.2.2.1.2 r g
      rw [a1, a2]
      refine ⟨b1, b2, fun i hi => ?_⟩
      rw [(a3 i hi).1, (a3 i hi).2]; exact b3 i hi
    · rw [show r = zrn s by omega, hnew, hb0]
      exact ⟨hok, by omega, fun i hi => by omega⟩
  refine zWF_rules hW hS (fun i hi => hne i (by omega) (by omega)) hR ?_ ?_ ?_
  · intro r hr
    rw [hcnt] at hr
    rcases Nat.lt_or_ge r (zrn s) with g | g
    · obtain ⟨a1, a2, a3⟩ := hold r g
      obtain ⟨b1, b2⟩ := hW.2.2.2.2.2.2.2.1 r g
      rw [a1, a2]
      exact ⟨b1, fun i hi => by rw [(a3 i hi).1]; exact b2 i hi⟩
    · rw [show r = zrn s by omega, hnew, hb0]
      exact ⟨ht, fun i hi => by omega⟩
  · obtain ⟨S, hSt⟩ := hW.2.2.2.2.2.2.2.2
    refine ⟨S, ?_⟩
    rintro a u w ⟨r, i, g1, g2, g3, g4, g5⟩
    rw [hcnt] at g1
    rcases Nat.lt_or_ge r (zrn s) with g | g
    · obtain ⟨a1, a2, a3⟩ := hold r g
      rw [a2] at g2
      exact hSt a u w ⟨r, i, g, g2, by rw [g3, a1], by rw [g4, (a3 i g2).1], by rw [g5, zbN_same (a3 i g2).2]⟩
    · rw [show r = zrn s by omega, hb0] at g2; omega
  · obtain ⟨d1, d2⟩ := hS.2.2.2.2.2
    refine ⟨by rw [hcnt], ?_⟩
    intro r hr
    rw [hcnt] at hr
    rw [zu_at]
    by_cases g : r = zrn s
    · rw [if_pos g, g, hnew, hb0, zup_at]
      exact ⟨rfl, rfl, by omega, fun i hi => by omega⟩
    · obtain ⟨a1, a2, a3⟩ := hold r (by omega)
      obtain ⟨b1, b2, b3⟩ := d2 r (by omega)
      rw [if_neg g, a1, a2, zup_ne _ _ g]
      exact ⟨b1, b2, zL_same b3 (fun i hi => ⟨(a3 i hi).1, zbN_same (a3 i hi).2⟩)⟩
/-- an atom more in a rule -/
def zrat (s : Nat → Nat) (r t x y z v : Nat) : Nat → Nat := zup (zup (zlay s (zbp r (zbn s r)) t x y z) (zbp r (zbn s r) + 4) v) (zhp r + 4) (zbn s r + 1)
theorem zrat_facts {s : Nat → Nat} (hW : zWF s) {r t x y z v : Nat} (hr : r < zrn s) (hn : zbn s r < 4) (ht : t < s 0) :
    (∀ i, i < 2655 → zrat s r t x y z v i = s i) ∧ zbn (zrat s r t x y z v) r = zbn s r + 1 ∧ zrh (zrat s r t x y z v) r = zrh s r ∧ (∀ i, i < zbn s r → zba (zrat s r t x y z v) r i = zba s r i ∧ (zrat s r t x y z v) (zbp r i + 4) = s (zbp r i + 4)) ∧ zba (zrat s r t x y z v) r (zbn s r) = (t, s (1 + t), x, y, z) ∧ (zrat s r t x y z v) (zbp r (zbn s r) + 4) = v ∧
      ∀ u, u < zrn s → u ≠ r → zrh (zrat s r t x y z v) u = zrh s u ∧ zbn (zrat s r t x y z v) u = zbn s u ∧ ∀ i, i < zbn s u → zba (zrat s r t x y z v) u i = zba s u i ∧ (zrat s r t x y z v) (zbp u i + 4) = s (zbp u i + 4) := by
  have h5 := hW.1
  have hrn := hW.2.2.2.2.2.2.1.1
  have hp : zhp r = 2655 + 25 * r := rfl
  have hb : zbp r (zbn s r) = zhp r + 5 + 5 * zbn s r := rfl
  have hne : ∀ i, i ≠ zhp r + 4 → (i < zbp r (zbn s r) ∨ zbp r (zbn s r) + 5 ≤ i) → zrat s r t x y z v i = s i := fun i g1 g2 => by
    unfold zrat
    rw [zup_ne _ _ g1, zup_ne _ _ (by omega), zlay_ne s (by omega)]
  have hT : zsmT s (zrat s r t x y z v) := ⟨by rw [hne 0 (by omega) (by omega)]; exact Nat.le_refl _, fun t ht => hne _ (by omega) (by omega)⟩
  have hla := zlay_at s (zbp r (zbn s r)) t x y z
  have hl : ∀ j, j < 4 → zrat s r t x y z v (zbp r (zbn s r) + j) = zlay s (zbp r (zbn s r)) t x y z (zbp r (zbn s r) + j) := fun j hj => by
    unfold zrat
    rw [zup_ne _ _ (by omega), zup_ne _ _ (by omega)]
  obtain ⟨w1, w2⟩ := hW.2.2.2.2.2.2.2.1 r hr
  refine ⟨fun i hi => hne i (by omega) (by omega), ?_, ?_, ?_, ?_, ?_, ?_⟩
  · show zrat s r t x y z v (zhp r + 4) = _
    unfold zrat; rw [zup_at]
  · exact zat_same hT w1 (fun i hi => hne _ (by omega) (by omega))
  · intro i hi
    have hbi : zbp r i = zhp r + 5 + 5 * i := rfl
    exact ⟨zat_same hT (w2 i hi) (fun j hj => hne _ (by omega) (by omega)), hne _ (by omega) (by omega)⟩
  · have e0 := hl 0 (by omega)
    have e1 := hl 1 (by omega)
    have e2 := hl 2 (by omega)
    have e3 := hl 3 (by omega)
    rw [Nat.add_zero, hla.1] at e0
    rw [hla.2.1] at e1
    rw [hla.2.2.1] at e2
    rw [hla.2.2.2] at e3
    unfold zba zat
    rw [e0, e1, e2, e3, hT.2 t ht]
  · unfold zrat
    rw [zup_ne _ _ (by omega), zup_at]
  · intro u hu hne'
    have hpu : zhp u = 2655 + 25 * u := rfl
    exact zrule_same hW hT hu (fun i h1 h2 => hne i (by omega) (by omega))
theorem zrat_E {s : Nat → Nat} (hW : zWF s) {r t x y z v : Nat} (hr : r < zrn s) (hn : zbn s r < 4) (ht : t < s 0) (a u w : Nat) : zE (zrat s r t x y z v) a u w ↔ zE s a u w ∨ (a = (zrh s r).1 ∧ u = t ∧ w = (decide (v = 1)).toNat) := by
  obtain ⟨f1, f2, f3, f4, f5, f6, f7⟩ := zrat_facts (x := x) (y := y) (z := z) (v := v) hW hr hn ht
  have hcnt : zrn (zrat s r t x y z v) = zrn s := f1 2654 (by omega)
  have hv : zbN (zrat s r t x y z v) r (zbn s r) = decide (v = 1) := by unfold zbN; rw [f6]
  constructor
  · rintro ⟨r', i, g1, g2, g3, g4, g5⟩
    rw [hcnt] at g1
    by_cases e : r' = r
    · subst e
      rw [f2] at g2
      rcases Nat.lt_or_ge i (zbn s r') with g | g
      · obtain ⟨q1, q2⟩ := f4 i g
        exact Or.inl ⟨r', i, g1, g, by rw [g3, f3], by rw [g4, q1], by rw [g5, zbN_same q2]⟩
      · have ei : i = zbn s r' := by omega
        subst ei
        exact Or.inr ⟨by rw [g3, f3], by rw [g4, f5], by rw [g5, hv]⟩
    · obtain ⟨p1, p2, p3⟩ := f7 r' g1 e
      rw [p2] at g2
      obtain ⟨q1, q2⟩ := p3 i g2
      exact Or.inl ⟨r', i, g1, g2, by rw [g3, p1], by rw [g4, q1], by rw [g5, zbN_same q2]⟩
  · rintro (⟨r', i, g1, g2, g3, g4, g5⟩ | ⟨g3, g4, g5⟩)
    · by_cases e : r' = r
      · subst e
        obtain ⟨q1, q2⟩ := f4 i g2
        exact ⟨r', i, by rw [hcnt]; exact g1, by rw [f2]; omega, by rw [g3, f3], by rw [g4, q1], by rw [g5, zbN_same q2]⟩
      · obtain ⟨p1, p2, p3⟩ := f7 r' g1 e
        obtain ⟨q1, q2⟩ := p3 i g2
        exact ⟨r', i, by rw [hcnt]; exact g1, by rw [p2]; exact g2, by rw [g3, p1], by rw [g4, q1], by rw [g5, zbN_same q2]⟩
    · exact ⟨r, zbn s r, by rw [hcnt]; exact hr, by rw [f2]; omega, by rw [g3, f3], by rw [g4, f5], by rw [g5, hv]⟩
theorem zrat_Rul {s : Nat → Nat} (hW : zWF s) {r t x y z v : Nat} (hr : r < zrn s) (hn : zbn s r < 4) (ht : t < s 0) (hx : x < 4) (hy : y < 4) (hz : z < 4) (hv : v ≤ 1) : zRul (zrat s r t x y z v) := by
  obtain ⟨f1, f2, f3, f4, f5, f6, f7⟩ := zrat_facts (x := x) (y := y) (z := z) (v := v) hW hr hn ht
  have hcnt : zrn (zrat s r t x y z v) = zrn s := f1 2654 (by omega)
  have h5 := hW.1
  obtain ⟨c1, c3⟩ := hW.2.1 t ht
  have hok : zaOK (t, s (1 + t), x, y, z) := ⟨by show t < 5; omega, c1, c3, hx, hy, hz⟩
  refine ⟨by rw [hcnt]; exact hW.2.2.2.2.2.2.1.1, ?_⟩
  intro u hu
  rw [hcnt] at hu
  obtain ⟨b1, b2, b3⟩ := hW.2.2.2.2.2.2.1.2 u hu
  by_cases e : u = r
  · subst e
    rw [f3, f2]
    refine ⟨b1, by omega, fun i hi => ?_⟩
    rcases Nat.lt_or_ge i (zbn s u) with g | g
    · rw [(f4 i g).1, (f4 i g).2]; exact b3 i g
    · rw [show i = zbn s u by omega, f5, f6]; exact ⟨hok, hv⟩
  · obtain ⟨p1, p2, p3⟩ := f7 u hu e
    rw [p1, p2]
    refine ⟨b1, b2, fun i hi => ?_⟩
    rw [(p3 i hi).1, (p3 i hi).2]; exact b3 i hi
theorem zWF_ratom {wd : Nat → Int32} {fa : Nat → Int64} {od hd : Nat → Int32} {qc : Nat → Nat → Int32} {qs : Nat → Int32} {bc : Nat → Nat → Int32} {bs : Nat → Int32} {tt rt : Int32} {s : Nat → Nat} (hW : zWF s) (hS : zSR wd fa od hd qc qs bc bs tt rt s) {r t x y z : Nat} {b : Bool} (hr : r < zrn s) (hn : zbn s r < 4) (ht : t < s 0) (hx : x < 4) (hy : y < 4) (hz : z < 4)
    (hSt : ∃ S, zStb (zE (zrat s r t x y z b.toNat)) S) :
    zWF (zrat s r t x y z b.toNat) ∧ zSR wd fa od hd qc qs (zup bc r (upd (bc r) (zbn s r) (nI (zaC (t, s (1 + t), x, y, z) b)))) (zup bs r (nI (zbn s r + 1))) tt rt (zrat s r t x y z b.toNat) := by
  obtain ⟨f1, f2, f3, f4, f5, f6, f7⟩ := zrat_facts (x := x) (y := y) (z := z) (v := b.toNat) hW hr hn ht
  have hcnt : zrn (zrat s r t x y z b.toNat) = zrn s := f1 2654 (by omega)
  have h5 := hW.1
  obtain ⟨c1, c3⟩ := hW.2.1 t ht
  have hok : zaOK (t, s (1 + t), x, y, z) := ⟨by show t < 5; omega, c1, c3, hx, hy, hz⟩
  have hbN : zbN (zrat s r t x y z b.toNat) r (zbn s r) = b := by unfold zbN; rw [f6]; cases b <;> rfl
  have hR := zrat_Rul (v := b.toNat) hW hr hn ht hx hy hz (Bool.toNat_le b)
  obtain ⟨d1, d2⟩ := hS.2.2.2.2.2
  refine zWF_rules hW hS (fun i hi => f1 i (by omega)) hR ?_ hSt ?_
  · intro u hu
    rw [hcnt] at hu
    obtain ⟨b1, b2⟩ := hW.2.2.2.2.2.2.2.1 u hu
    by_cases e : u = r
    · subst e
      rw [f3, f2]
      refine ⟨b1, fun i hi => ?_⟩
      rcases Nat.lt_or_ge i (zbn s u) with g | g
      · rw [(f4 i g).1]; exact b2 i g
      · rw [show i = zbn s u by omega, f5]; exact ht
    · obtain ⟨p1, p2, p3⟩ := f7 u hu e
      rw [p1, p2]
      exact ⟨b1, fun i hi => by rw [(p3 i hi).1]; exact b2 i hi⟩
  · refine ⟨by rw [hcnt]; exact d1, ?_⟩
    intro u hu
    rw [hcnt] at hu
    obtain ⟨b1, b2, b3⟩ := d2 u hu
    by_cases e : u = r
    · subst e
      rw [f3, f2, zup_at, zup_at]
      have hadd := (zX2_add b3 (show zbn s u < 5 by omega) hok (b := b)).2
      refine ⟨b1, rfl, zL_same hadd ?_⟩
      intro i hi
      rcases Nat.lt_or_ge i (zbn s u) with g | g
      · rw [zup_ne _ _ (show i ≠ zbn s u by omega), zup_ne _ _ (show i ≠ zbn s u by omega)]
        exact ⟨(f4 i g).1, zbN_same (f4 i g).2⟩
      · rw [show i = zbn s u by omega, zup_at, zup_at]
        exact ⟨f5, hbN⟩
    · obtain ⟨p1, p2, p3⟩ := f7 u hu e
      rw [p1, p2, zup_ne _ _ e, zup_ne _ _ e]
      exact ⟨b1, b2, zL_same b3 (fun i hi => ⟨(p3 i hi).1, zbN_same (p3 i hi).2⟩)⟩
