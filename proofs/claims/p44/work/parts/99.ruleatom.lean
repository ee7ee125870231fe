/-! an atom more in a rule -/
def zrst (s : Nat → Nat) (r t x y z v : Nat) : Nat → Nat := zup (zrat s r t x y z v) (zhp r + 4) (zbn s r)
theorem zrst_ne (s : Nat → Nat) (r t x y z v : Nat) {i : Nat} (h : i < zbp r (zbn s r) ∨ zbp r (zbn s r) + 5 ≤ i) : zrst s r t x y z v i = s i := by
  unfold zrst
  by_cases g : i = zhp r + 4
  · rw [g, zup_at]; rfl
  · rw [zup_ne _ _ g]
    unfold zrat
    rw [zup_ne _ _ g, zup_ne _ _ (by omega), zlay_ne s (by omega)]
theorem zrst_WF {wd : Nat → Int32} {fa : Nat → Int64} {od hd : Nat → Int32} {qc : Nat → Nat → Int32} {qs : Nat → Int32} {bc : Nat → Nat → Int32} {bs : Nat → Int32} {tt rt : Int32} {s : Nat → Nat} (hW : zWF s) (hS : zSR wd fa od hd qc qs bc bs tt rt s) {u t x y z v : Nat} (hr : u < zrn s) (hn : zbn s u < 4) :
    zWF (zrst s u t x y z v) ∧ zSR wd fa od hd qc qs bc bs tt rt (zrst s u t x y z v) ∧ zsmR s (zrst s u t x y z v) ∧ (∀ q, q < 4 → zsmQ s (zrst s u t x y z v) q) ∧ (∀ t' k, t' < 5 → k < 512 → zfacts (zrst s u t x y z v) t' k = zfacts s t' k) := by
  have h5 := hW.1
  have hrn := hW.2.2.2.2.2.2.1.1
  have hp : zhp u = 2655 + 25 * u := rfl
  have hb : zbp u (zbn s u) = zhp u + 5 + 5 * zbn s u := rfl
  have hne := fun i => zrst_ne s u t x y z v (i := i)
  have hT : zsmT s (zrst s u t x y z v) := ⟨by rw [hne 0 (by omega)]; exact Nat.le_refl _, fun t ht => hne _ (by omega)⟩
  have hR : zsmR s (zrst s u t x y z v) := by
    refine ⟨hne 2654 (by omega), ?_⟩
    intro r hr'
    have hpr : zhp r = 2655 + 25 * r := rfl
    by_cases g : r = u
    · rw [g]
      obtain ⟨w1, w2⟩ := hW.2.2.2.2.2.2.2.1 u hr
      refine ⟨zat_same hT w1 (fun i hi => hne _ (by omega)), hne (zhp u + 4) (by omega), ?_⟩
      intro i hi
      have hbi : zbp u i = zhp u + 5 + 5 * i := rfl
      exact ⟨zat_same hT (w2 i hi) (fun j hj => hne _ (by omega)), hne _ (by omega)⟩
    · exact zrule_same hW hT hr' (fun i h1 h2 => hne i (by omega))
  have hQ : ∀ q, q < 4 → zsmQ s (zrst s u t x y z v) q := fun q hq => zsmQ_of hW hT hq (fun i h1 h2 => hne i (by omega)) (hne _ (by omega))
  have hwr := zWr_same hT.1 hR hW.2.2.2.2.2.2.2.1
  have h0 : zrst s u t x y z v 0 = s 0 := hne 0 (by omega)
  obtain ⟨a, b⟩ := zWF_rules hW hS (fun i hi => hne i (by omega)) (zRul_same hR hW.2.2.2.2.2.2.1) (by rw [h0] at hwr; exact hwr) (zS_same hR hW.2.2.2.2.2.2.2.2) (zRc_same hR hS.2.2.2.2.2)
  refine ⟨a, b, hR, hQ, ?_⟩
  intro t' k ht' hk
  unfold zfacts
  rw [hne _ (by omega)]
theorem zX12_laysRuleAtom {now : Nat → Int32} {s : Nat → Nat} (hm : zM now s) (hW : zWF s) {u t x y z v : Nat} (hu : u < zrn s) (hn : zbn s u < 4) (ht : t < 5) (hx : x < 4) (hy : y < 4) (hz : z < 4) (hv : v ≤ 1) :
    ∃ now', fX12_laysRuleAtom (nI u) (nI t) (nI x) (nI y) (nI z) (nI v) now = some now' ∧ zM now' (zrat s u t x y z v) := by
  have hrn := hW.2.2.2.2.2.2.1.1
  have hp : zhp u = 2655 + 25 * u := rfl
  have hb : zbp u (zbn s u) = zhp u + 5 + 5 * zbn s u := rfl
  obtain ⟨now1, el, hm1⟩ := zX12_laysHead hm (p := zbp u (zbn s u)) (x := x) (y := y) (z := z) (t := t) (by omega) (by omega) (by omega) (by omega) (by omega)
  have e7 : nI (zbp u (zbn s u)) + (4 : Int32) = nI (zbp u (zbn s u) + 4) := by rw [show (4 : Int32) = nI 4 from rfl, zi_add]
  have e8 : nI (zhp u) + (4 : Int32) = nI (zhp u + 4) := by rw [show (4 : Int32) = nI 4 from rfl, zi_add]
  have hc : upd now1 (zbp u (zbn s u) + 4) (nI v) (zhp u + 4) = nI (zbn s u) := by
    rw [zu_ne now1 _ (by omega), (hm1 (zhp u + 4) (by omega)).1, zlay_ne s (Or.inl (by omega))]
    rfl
  refine ⟨upd (upd now1 (zbp u (zbn s u) + 4) (nI v)) (zhp u + 4) (nI (zbn s u + 1)), ?_, zM_up (zM_up hm1 (by omega)) (by omega)⟩
  unfold fX12_laysRuleAtom
  rw [zX12_ruleAtoms hm (show u < 5 by omega), Option.bind_some, zX12_ruleAtomAt, Option.bind_some, el, Option.bind_some, e7, if_pos (by rw [zi_inB (by omega)]; omega), zX12_headAt, Option.bind_some, e8, if_pos (by rw [zi_inB (by omega)]; omega), if_pos (by rw [zi_inB (by omega)]; omega), zi_clamp (by omega), zi_clamp (by omega), hc, ← nI_succ]
theorem zI_addRuleAtom (K : Nat) (hK : 1000000 < K) {wd : Nat → Int32} {fa : Nat → Int64} {od hd : Nat → Int32} {qc : Nat → Nat → Int32} {qs : Nat → Int32} {bc : Nat → Nat → Int32} {bs : Nat → Int32} {tt rt : Int32} {H : zH12} {w : Nat → Int64} {g re fi : Nat → Int32} {ro im : Int32} {r : zR15} {ff : Int32} {now before : Nat → Int32} {ch : Int32} {row layer : Nat → Int32} {rounds : Int32} {value : Nat → Int32} (h : zIv wd fa od hd qc qs bc bs tt rt H w g re fi ro im r ff now before ch row layer rounds value) (comes tried : Nat → Int32) (p p2 p3 p4 p5 p6 th : Int32) :
    ∃ e b bc' bs' H' tried' im' ff' now' before' ch' row' comes' layer' rounds' value', zaph (fX11_addRuleAtom K wd fa od hd qc qs tt rt p p2 p3 p4 p5 p6 bc bs) H tried im ff = some (e, bc', bs', zgh H' (tried', im', ff')) ∧ fX12_addRuleAtom K p p2 p3 p4 p5 p6 now before ch th row comes layer rounds value = some (b.1, now', before', ch', b.2, row', comes', layer', rounds', value') ∧ zAg [0, 1, 2] 0 e b ∧ zIv wd fa od hd qc qs bc' bs' tt rt H' w g re fi ro im' r ff' now' before' ch' row' layer' rounds' value' := by
  have h0 := h
  obtain ⟨s, M, hW, hM, hM4, hS, hH, hg, hff, hm, hrow, hl, hro, hval⟩ := h
  have htt := hS.1
  subst htt
  have hrt := hS.2.2.2.2.2.1
  subst hrt
  have hs5 := hW.1
  have hwd := hS.2.1
  have hr5 := hW.2.2.2.2.2.2.1.1
  have e4 : (4 : Int32) = nI 4 := rfl
  rcases zC_rule hm hr5 p with ⟨u, hu, rfl, e1, e2⟩ | ⟨e1, e2⟩
  · obtain ⟨b0, b1, b2⟩ := hS.2.2.2.2.2.2 u hu
    obtain ⟨hh0, hn4, hh2⟩ := hW.2.2.2.2.2.2.1.2 u hu
    rcases zC_table hm hW.1 p2 with ⟨t, ht, rfl, e3, e4'⟩ | ⟨e3, e4'⟩
    · obtain ⟨c1, c3⟩ := hW.2.1 t ht
      rcases zC_vars hm hW hwd ht p3 p4 p5 with ⟨x, y, z, hx, hy, hz, rfl, rfl, rfl, e5, e6⟩ | ⟨e5, e6⟩
      · by_cases hn : zbn s u = 4
        · refine ⟨.inl 2, (0, 3), bc, bs, H, tried, im, ff, now, before, ch, row, comes, layer, rounds, value, ?_, ?_, Or.inl ⟨2, by decide, rfl, rfl⟩, h0⟩
          · unfold zaph fX11_addRuleAtom
            rw [e1, Option.bind_some]
            show ((fX11_needTable (nI (s 0)) (nI t)).bind _) = _
            rw [e3, Option.bind_some]
            show ((fX11_needVariables wd (nI t) (nI x) (nI y) (nI z)).bind _) = _
            rw [e5, Option.bind_some]
            show ((fX9_body (nI u)).bind _) = _
            rw [zX9_body (show u < 5 by omega), Option.bind_some, if_pos (show u < 5 by omega), b1, if_neg (by rw [e4, zi_lt (by omega) (by omega)]; omega)]
            rfl
          · unfold fX12_addRuleAtom fX12_fails
            rw [e2, Option.bind_some, if_neg (show ¬ bI true = 0 by decide), e4', Option.bind_some, if_neg (show ¬ bI true = 0 by decide), e6, Option.bind_some, if_neg (show ¬ bI true = 0 by decide), zX12_ruleAtoms hm (show u < 5 by omega), Option.bind_some, if_pos (by rw [hn]; rfl)]
            rfl
        · have hn' : zbn s u < 4 := by omega
          obtain ⟨b, hb⟩ : ∃ b : Bool, (p6 = 0 ∧ b = false) ∨ (¬ p6 = 0 ∧ b = true) := by
            by_cases g : p6 = 0
            · exact ⟨false, Or.inl ⟨g, rfl⟩⟩
            · exact ⟨true, Or.inr ⟨g, rfl⟩⟩
          have hok : zaOK (t, s (1 + t), x, y, z) := ⟨by show t < 5; omega, c1, c3, hx, hy, hz⟩
          have r80 : fX12_addRuleAtom K (nI u) (nI t) (nI x) (nI y) (nI z) p6 now before ch th row comes layer rounds value = fX12_addRuleAtom_80 K (nI u) (nI t) (nI x) (nI y) (nI z) p6 (nI u) (nI t) (nI x) (nI y) (nI z) (nI b.toNat) now before ch 0 row comes layer rounds value := by
            unfold fX12_addRuleAtom
            rw [e2, Option.bind_some, if_neg (show ¬ bI true = 0 by decide), e4', Option.bind_some, if_neg (show ¬ bI true = 0 by decide), e6, Option.bind_some, if_neg (show ¬ bI true = 0 by decide), zX12_ruleAtoms hm (show u < 5 by omega), Option.bind_some, if_neg (by rw [e4, zi_eq (by omega) (by omega)]; exact hn)]
            rcases hb with ⟨g, rfl⟩ | ⟨g, rfl⟩
            · rw [if_pos g]; rfl
            · rw [if_neg g]; rfl
          have c86 : zaph (fX11_addRuleAtom K wd fa od hd qc qs (nI (s 0)) (nI (zrn s)) (nI u) (nI t) (nI x) (nI y) (nI z) p6 bc bs) H tried im ff = zaph (fX11_addRuleAtom_86 K wd fa od hd qc qs (nI (s 0)) (nI (zrn s)) (nI u) (nI t) (nI x) (nI y) (nI z) p6 u (nI (zaC (t, s (1 + t), x, y, z) b)) bc bs) H tried im ff := by
            unfold zaph fX11_addRuleAtom
            rw [e1, Option.bind_some]
            show ((fX11_needTable (nI (s 0)) (nI t)).bind _) = _
            rw [e3, Option.bind_some]
            show ((fX11_needVariables wd (nI t) (nI x) (nI y) (nI z)).bind _) = _
            rw [e5, Option.bind_some]
            show ((fX9_body (nI u)).bind _) = _
            rw [zX9_body (show u < 5 by omega), Option.bind_some, if_pos (show u < 5 by omega), b1, if_pos (by rw [e4, zi_lt (by omega) (by omega)]; omega), zX6_at wd (show t < 5 by omega) (by omega), Option.bind_some, hwd t ht, zX1_code (by omega) c1 c3 hx hy hz, Option.bind_some]
            rcases hb with ⟨g, rfl⟩ | ⟨g, rfl⟩
            · rw [if_pos g]
            · rw [if_neg g, zX1_withNot hok, Option.bind_some]
          have hv1 : b.toNat ≤ 1 := Bool.toNat_le b
          obtain ⟨now1, el1, hm1⟩ := zX12_laysRuleAtom hm hW hu hn' (show t < 5 by omega) hx hy hz hv1
          obtain ⟨hW2, hS2, hR2, hQ2, hf2⟩ := zrst_WF (t := t) (x := x) (y := y) (z := z) (v := b.toNat) hW hS hu hn'
          have hp : zhp u = 2655 + 25 * u := rfl
          have hm2 : zM (upd now1 (zhp u + 4) (nI (zbn s u))) (zrst s u t x y z b.toNat) := zM_up hm1 (by omega)
          have hRul1 := zrat_Rul (v := b.toNat) hW hu hn' ht hx hy hz hv1
          obtain ⟨bb, g1, ef1, hbb, hg1⟩ := zX12_findsLayers K (by omega) hm1 hRul1 layer
          have hEX : zEX s (fun r h' u' w' => r = u ∧ h' = (zrh s u).1 ∧ u' = t ∧ w' = b.toNat) = zE (zrat s u t x y z b.toNat) := by
            funext a u' w'
            have hE := zrat_E (x := x) (y := y) (z := z) (v := b.toNat) hW hu hn' ht a u' w'
            have hd1 : (decide (b.toNat = 1)).toNat = b.toNat := by cases b <;> rfl
            rw [hd1] at hE
            apply propext
            rw [hE]
            constructor
            · rintro (h1 | ⟨r, hr, rfl, h2⟩)
              · exact Or.inl h1
              · exact Or.inr h2
            · rintro (h1 | h2)
              · exact Or.inl h1
              · exact Or.inr ⟨u, hu, rfl, h2⟩
          have hXr : zXr (nI u) (nI (zaC (t, s (1 + t), x, y, z) b)) s (fun r h' u' w' => r = u ∧ h' = (zrh s u).1 ∧ u' = t ∧ w' = b.toNat) := by
            intro r hr
            constructor
            · intro g
              have : r = u := (zi_eq (by omega) (by omega)).1 g
              subst this
              exact ⟨_, b, hok, rfl, fun h' u' w' => ⟨fun q => q.2, fun q => ⟨rfl, q⟩⟩⟩
            · intro g h' u' w' q
              exact g (by rw [q.1])
          obtain ⟨bb', tried', es, hbb', _⟩ := zX4_settle K (by omega) hW.2.2.2.2.2.2.1 hS.2.2.2.2.2 hXr tried
          rw [hEX] at hbb'
          have hbe : bb' = bb := by rw [Bool.eq_iff_iff, hbb', hbb]
          subst hbe
          have e8 : nI (zhp u) + (4 : Int32) = nI (zhp u + 4) := by rw [show (4 : Int32) = nI 4 from rfl, zi_add]
          have hcell : now1 (zhp u + 4) - (1 : Int32) = nI (zbn s u) := by
            rw [(hm1 (zhp u + 4) (by omega)).1]
            have : zrat s u t x y z b.toNat (zhp u + 4) = zbn s u + 1 := zup_at _ _ _
            rw [this, show (1 : Int32) = nI 1 from rfl, zi_sub (by omega)]
            rfl
          have i8 : inB (nI (zhp u + 4)) 2780 = true := by rw [zi_inB (by omega)]; omega
          have estay : fX4_staysLayered K hd bc bs (nI (zrn s)) (nI u) (nI (zaC (t, s (1 + t), x, y, z) b)) tried = some (bb', tried') := by
            unfold fX4_staysLayered
            rw [es]; rfl
          rw [r80, c86]
          unfold fX12_addRuleAtom_80
          rw [el1, Option.bind_some, ef1, Option.bind_some, zX12_headAt, Option.bind_some, e8, if_pos i8, if_pos i8, zi_clamp (by omega), hcell]
          cases bb'
          · obtain ⟨bb2, g2, ef2, _, hg2⟩ := zX12_findsLayers K (by omega) hm2 hW2.2.2.2.2.2.2.1 g1
            have hMl := zR_Lst hR2 hM
            rw [if_pos (show bI (false, g1).1 = 0 from rfl)]
            show ∃ e b bc' bs' H' tried' im' ff' now' before' ch' row' comes' layer' rounds' value', _ ∧ ((fX12_findsLayers K (upd now1 (zhp u + 4) (nI (zbn s u))) g1).bind _) = _ ∧ _
            rw [ef2, Option.bind_some]
            refine ⟨.inl 2, (0, 3), bc, bs, H, tried', im, ff, _, before, ch, row, comes, g2, rounds, value, ?_, rfl, Or.inl ⟨2, by decide, rfl, rfl⟩, zIv_stay hW hM hM4 hg hrow (hg2 M hMl) hro hval hff hW2 hS2 hR2 hQ2 hf2 hH hm2⟩
            unfold zaph fX11_addRuleAtom_86
            rw [estay, Option.bind_some, if_pos (show bI (false, tried').1 = 0 from rfl)]
            rfl
          · rw [if_neg (show ¬ bI (true, g1).1 = 0 from (by decide : ¬ bI true = 0))]
            obtain ⟨H', before', ch', ek1, ek2, hH'⟩ := zKeepU K (by omega) hW2 hS2 hH hm2 ff
            have hu2 : u < zrn (zrst s u t x y z b.toNat) := by rw [hR2.1]; exact hu
            have hnn : zbn (zrst s u t x y z b.toNat) u = zbn s u := (hR2.2 u hu).2.1
            have ht2 : t < zrst s u t x y z b.toNat 0 := by
              rw [zrst_ne s u t x y z b.toNat (Or.inl (by show 0 < zhp u + 5 + 5 * zbn s u; omega))]; exact ht
            have hw2 : zrst s u t x y z b.toNat (1 + t) = s (1 + t) := zrst_ne s u t x y z b.toNat (Or.inl (by show 1 + t < zhp u + 5 + 5 * zbn s u; omega))
            obtain ⟨now3, el3, hm3⟩ := zX12_laysRuleAtom hm2 hW2 hu2 (by rw [hnn]; exact hn') (show t < 5 by omega) hx hy hz hv1
            have hE2 : zE (zrat (zrst s u t x y z b.toNat) u t x y z b.toNat) = zE (zrat s u t x y z b.toNat) := by
              funext a u' w'
              apply propext
              rw [zrat_E hW2 hu2 (by rw [hnn]; exact hn') ht2, zrat_E hW hu hn' ht, zE_same hR2, (hR2.2 u hu).1]
            obtain ⟨hW3, hS3⟩ := zWF_ratom (b := b) hW2 hS2 hu2 (by rw [hnn]; exact hn') ht2 hx hy hz (by rw [hE2]; exact hbb.1 rfl)
            rw [hnn, hw2] at hS3
            obtain ⟨M', row', comes', layer', rounds', value', a1, a2, efo, a3, a4, a5, a6⟩ := zFol K hK hm3 hW3 row comes g1 rounds hval
            have hz3 : zbn (zrat (zrst s u t x y z b.toNat) u t x y z b.toNat) u = zbn s u + 1 := by
              have : zbn (zrat (zrst s u t x y z b.toNat) u t x y z b.toNat) u = zbn (zrst s u t x y z b.toNat) u + 1 := zup_at _ _ _
              rw [this, hnn]
            have hadd := (zX2_add b2 (show zbn s u < 5 by omega) (b := b) hok).1
            show ∃ e b bc' bs' H' tried' im' ff' now' before' ch' row' comes' layer' rounds' value', _ ∧ ((fX12_keeps (upd now1 (zhp u + 4) (nI (zbn s u))) before ch).bind _) = _ ∧ _
            rw [ek2, Option.bind_some]
            refine ⟨.inr (nI (zbn s u + 1)), (nI (zbn s u + 1), 0), _, _, H', tried', 0, -1, now3, before', ch', row', comes', layer', rounds', value', ?_, ?_, Or.inr ⟨_, rfl, rfl⟩, ⟨_, M', hW3, a1, a2, hS3, hH', Or.inl rfl, Or.inl rfl, hm3, a3, a4, a5, a6⟩⟩
            · unfold zaph fX11_addRuleAtom_86
              rw [estay, Option.bind_some, if_neg (show ¬ bI (true, tried').1 = 0 from (by decide : ¬ bI true = 0))]
              show ((zaph (fX11_keepForUndo K wd fa od hd qc qs bc bs (nI (s 0)) (nI (zrn s))) H ff).bind _) = _
              rw [ek1, Option.bind_some]
              show (if u < 5 then ((fX2_add (nI (zaC (t, s (1 + t), x, y, z) b)) (bc u) (bs u)).bind fun q130 => some ((Sum.inr ((zup bs u q130.2) u) : Nat ⊕ Int32), (zup bc u q130.1, zup bs u q130.2, zgh H' (tried', (0 : Int32), (-1 : Int32))))) else none) = _
              rw [if_pos (show u < 5 by omega), b1, hadd, Option.bind_some]
              show some ((Sum.inr ((zup bs u (nI (zbn s u + 1))) u) : Nat ⊕ Int32), _) = _
              rw [zup_at]
            · have e144 : ∀ v : Int32, v = nI b.toNat → fX12_addRuleAtom_144 K (nI u) (nI t) (nI x) (nI y) (nI z) p6 (nI u) (nI t) (nI x) (nI y) (nI z) v (upd now1 (zhp u + 4) (nI (zbn s u))) before' ch' 0 row comes g1 rounds value = some (nI (zbn s u + 1), now3, before', ch', 0, row', comes', layer', rounds', value') := by
                intro v hv
                unfold fX12_addRuleAtom_144
                rw [hv, el3, Option.bind_some, efo, Option.bind_some, zX12_ruleAtoms hm3 (show u < 5 by omega), Option.bind_some, hz3]
              rcases hb with ⟨g, rfl⟩ | ⟨g, rfl⟩
              · rw [if_pos g]; exact e144 0 rfl
              · rw [if_neg g]; exact e144 1 rfl
      · refine ⟨.inl 1, (0, 2), bc, bs, H, tried, im, ff, now, before, ch, row, comes, layer, rounds, value, ?_, ?_, Or.inl ⟨1, by decide, rfl, rfl⟩, h0⟩
        · unfold zaph fX11_addRuleAtom
          rw [e1, Option.bind_some]
          show ((fX11_needTable (nI (s 0)) (nI t)).bind _) = _
          rw [e3, Option.bind_some]
          show ((fX11_needVariables wd (nI t) p3 p4 p5).bind _) = _
          rw [e5]; rfl
        · unfold fX12_addRuleAtom fX12_fails
          rw [e2, Option.bind_some, if_neg (show ¬ bI true = 0 by decide), e4', Option.bind_some, if_neg (show ¬ bI true = 0 by decide), e6, Option.bind_some, if_pos (show bI false = 0 from rfl)]; rfl
    · refine ⟨.inl 0, (0, 1), bc, bs, H, tried, im, ff, now, before, ch, row, comes, layer, rounds, value, ?_, ?_, Or.inl ⟨0, by decide, rfl, rfl⟩, h0⟩
      · unfold zaph fX11_addRuleAtom
        rw [e1, Option.bind_some]
        show ((fX11_needTable (nI (s 0)) p2).bind _) = _
        rw [e3]; rfl
      · unfold fX12_addRuleAtom fX12_addRuleAtom_21 fX12_fails
        rw [e2, Option.bind_some, if_neg (show ¬ bI true = 0 by decide), e4', Option.bind_some, if_pos (show bI false = 0 from rfl)]; rfl
  · refine ⟨.inl 0, (0, 1), bc, bs, H, tried, im, ff, now, before, ch, row, comes, layer, rounds, value, ?_, ?_, Or.inl ⟨0, by decide, rfl, rfl⟩, h0⟩
    · unfold zaph fX11_addRuleAtom
      rw [e1]; rfl
    · unfold fX12_addRuleAtom fX12_addRuleAtom_21 fX12_fails
      rw [e2, Option.bind_some, if_pos (show bI false = 0 from rfl)]; rfl
