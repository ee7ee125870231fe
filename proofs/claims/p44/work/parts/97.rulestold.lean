/-! a rule told, a rule less, a change taken back -/
theorem zX9_openRule (x : Int32) (hd bs : Nat → Int32) {n : Nat} (hn : n < 5) : fX9_openRule x hd bs (nI n) = some (upd hd n x, zup bs n 0, nI (n + 1)) := by
  unfold fX9_openRule
  rw [zX6_put x hd hn (by omega), Option.bind_some, zX9_body hn, Option.bind_some, if_pos hn, ← nI_succ]
  rfl
theorem zI_addRule (K : Nat) (hK : 1000000 < K) {wd : Nat → Int32} {fa : Nat → Int64} {od hd : Nat → Int32} {qc : Nat → Nat → Int32} {qs : Nat → Int32} {bc : Nat → Nat → Int32} {bs : Nat → Int32} {tt rt : Int32} {H : zH12} {w : Nat → Int64} {g re fi : Nat → Int32} {ro im : Int32} {r : zR15} {ff : Int32} {now before : Nat → Int32} {ch : Int32} {row layer : Nat → Int32} {rounds : Int32} {value : Nat → Int32} (h : zIv wd fa od hd qc qs bc bs tt rt H w g re fi ro im r ff now before ch row layer rounds value) (comes : Nat → Int32) (p p2 p3 p4 th : Int32) :
    ∃ e b hd' bs' rt' H' im' ff' now' before' ch' row' comes' layer' rounds' value', zaph (fX11_addRule K wd fa od qc qs bc tt p p2 p3 p4 hd bs rt) H im ff = some (e, hd', bs', rt', zgh H' (im', ff')) ∧ fX12_addRule K p p2 p3 p4 now before ch th row comes layer rounds value = some (b.1, now', before', ch', b.2, row', comes', layer', rounds', value') ∧ zAg [0, 1, 2] 0 e b ∧ zIv wd fa od hd' qc qs bc bs' tt rt' H' w g re fi ro im' r ff' now' before' ch' row' layer' rounds' value' := by
  have h0 := h
  obtain ⟨s, M, hW, hM, hM4, hS, hH, hg, hff, hm, hrow, hl, hro, hval⟩ := h
  have htt := hS.1
  subst htt
  have hrt := hS.2.2.2.2.2.1
  subst hrt
  have hs5 := hW.1
  have hwd := hS.2.1
  have hr5 := hW.2.2.2.2.2.2.1.1
  have e5 : (5 : Int32) = nI 5 := rfl
  have c2 : (2654 : Int32).toNatClampNeg = 2654 := by decide
  have i2 : inB (2654 : Int32) 2780 = true := by decide
  have n2 : now 2654 = nI (zrn s) := (hm 2654 (by omega)).1
  rcases zC_table hm hW.1 p with ⟨t, ht, rfl, e1, e2⟩ | ⟨e1, e2⟩
  · obtain ⟨c1, c3⟩ := hW.2.1 t ht
    rcases zC_vars hm hW hwd ht p2 p3 p4 with ⟨x, y, z, hx, hy, hz, rfl, rfl, rfl, e5', e6⟩ | ⟨e5', e6⟩
    · by_cases hn5 : zrn s = 5
      · refine ⟨.inl 2, (0, 3), hd, bs, nI (zrn s), H, im, ff, now, before, ch, row, comes, layer, rounds, value, ?_, ?_, Or.inl ⟨2, by decide, rfl, rfl⟩, h0⟩
        · unfold zaph fX11_addRule
          rw [e1, Option.bind_some]
          show ((fX11_needVariables wd (nI t) (nI x) (nI y) (nI z)).bind _) = _
          rw [e5', Option.bind_some]
          show (if nI (zrn s) < (5 : Int32) then _ else _) = _
          rw [if_neg (by rw [e5, zi_lt (by omega) (by omega)]; omega)]
          rfl
        · unfold fX12_addRule fX12_fails
          rw [e2, Option.bind_some, if_neg (show ¬ bI true = 0 by decide), e6, Option.bind_some, if_neg (show ¬ bI true = 0 by decide), if_pos i2, c2, n2, if_pos (by rw [hn5]; rfl)]
          rfl
      · obtain ⟨H', before', ch', ek1, ek2, hH'⟩ := zKeepU K (by omega) hW hS hH hm ff
        obtain ⟨hW', hS'⟩ := zWF_rule hW hS (show zrn s < 5 by omega) ht hx hy hz rfl
        have hzp : zhp (zrn s) + 3 < 2780 := by unfold zhp; omega
        obtain ⟨now1, el, hm1⟩ := zX12_laysHead hm (x := x) (y := y) (z := z) (t := t) hzp (by omega) (by omega) (by omega) (by omega)
        have hq1 : now1 2654 = nI (zrn s) := by
          rw [(hm1 2654 (by omega)).1, zlay_ne s (Or.inl (by unfold zhp; omega))]
          rfl
        have hm' : zM (upd (upd now1 (zhp (zrn s) + 4) (nI 0)) 2654 (nI (zrn s + 1))) (zup (zup (zlay s (zhp (zrn s)) t x y z) (zhp (zrn s) + 4) 0) 2654 (zrn s + 1)) := zM_up (zM_up hm1 (by omega)) (by omega)
        have hp4 : zhp (zrn s) + 4 < 2780 := by unfold zhp; omega
        have e7 : nI (zhp (zrn s)) + (4 : Int32) = nI (zhp (zrn s) + 4) := by rw [show (4 : Int32) = nI 4 from rfl, zi_add]
        have elay : fX12_laysRule (nI t) (nI x) (nI y) (nI z) now = some (upd (upd now1 (zhp (zrn s) + 4) (nI 0)) 2654 (nI (zrn s + 1))) := by
          unfold fX12_laysRule
          rw [if_pos i2, c2, n2, zX12_headAt, Option.bind_some, el, Option.bind_some, if_pos i2, hq1, zX12_headAt, Option.bind_some, e7, if_pos (by rw [zi_inB (by omega)]; exact hp4), if_pos i2, if_pos i2, zi_clamp (by omega)]
          have : upd now1 (zhp (zrn s) + 4) (0 : Int32) 2654 = nI (zrn s) := by rw [zu_ne now1 0 (show 2654 ≠ zhp (zrn s) + 4 by unfold zhp; omega)]; exact hq1
          rw [this, ← nI_succ]
          rfl
        obtain ⟨M', row', comes', layer', rounds', value', a1, a2, efo, a3, a4, a5, a6⟩ := zFol K hK hm' hW' row comes layer rounds hval
        have hsub : nI (zrn s + 1) - (1 : Int32) = nI (zrn s) := by rw [show (1 : Int32) = nI 1 from rfl, zi_sub (by omega)]; rfl
        refine ⟨.inr (nI (zrn s)), (nI (zrn s), 0), _, _, _, H', 0, -1, _, before', ch', row', comes', layer', rounds', value', ?_, ?_, Or.inr ⟨_, rfl, rfl⟩, ⟨_, M', hW', a1, a2, hS', hH', Or.inl rfl, Or.inl rfl, hm', a3, a4, a5, a6⟩⟩
        · unfold zaph fX11_addRule
          rw [e1, Option.bind_some]
          show ((fX11_needVariables wd (nI t) (nI x) (nI y) (nI z)).bind _) = _
          rw [e5', Option.bind_some]
          show (if nI (zrn s) < (5 : Int32) then _ else _) = _
          rw [if_pos (by rw [e5, zi_lt (by omega) (by omega)]; omega)]
          show ((zaph (fX11_keepForUndo K wd fa od hd qc qs bc bs (nI (s 0)) (nI (zrn s))) H ff).bind _) = _
          rw [ek1, Option.bind_some]
          show ((fX6_at 5 wd (nI t)).bind fun q59 => (fX1_code (nI t) q59 (nI x) (nI y) (nI z)).bind fun q66 => (fX9_openRule q66 hd bs (nI (zrn s))).bind fun q69 => some ((Sum.inr (q69.2.2 - (1 : Int32)) : Nat ⊕ Int32), (q69.1, q69.2.1, q69.2.2, zgh H' ((0 : Int32), (-1 : Int32))))) = _
          rw [zX6_at wd (show t < 5 by omega) (by omega), Option.bind_some, hwd t ht, zX1_code (by omega) c1 c3 hx hy hz, Option.bind_some, zX9_openRule _ hd bs (show zrn s < 5 by omega), Option.bind_some, hsub]
          rfl
        · unfold fX12_addRule fX12_fails
          rw [e2, Option.bind_some, if_neg (show ¬ bI true = 0 by decide), e6, Option.bind_some, if_neg (show ¬ bI true = 0 by decide), if_pos i2, c2, n2, if_neg (by rw [e5, zi_eq (by omega) (by omega)]; exact hn5), ek2, Option.bind_some, elay, Option.bind_some, efo, Option.bind_some, if_pos i2, zu_same, hsub]
    · refine ⟨.inl 1, (0, 2), hd, bs, nI (zrn s), H, im, ff, now, before, ch, row, comes, layer, rounds, value, ?_, ?_, Or.inl ⟨1, by decide, rfl, rfl⟩, h0⟩
      · unfold zaph fX11_addRule
        rw [e1, Option.bind_some]
        show ((fX11_needVariables wd (nI t) p2 p3 p4).bind _) = _
        rw [e5']; rfl
      · unfold fX12_addRule fX12_fails
        rw [e2, Option.bind_some, if_neg (show ¬ bI true = 0 by decide), e6, Option.bind_some, if_pos (show bI false = 0 from rfl)]; rfl
  · refine ⟨.inl 0, (0, 1), hd, bs, nI (zrn s), H, im, ff, now, before, ch, row, comes, layer, rounds, value, ?_, ?_, Or.inl ⟨0, by decide, rfl, rfl⟩, h0⟩
    · unfold zaph fX11_addRule
      rw [e1]; rfl
    · unfold fX12_addRule fX12_fails
      rw [e2, Option.bind_some, if_pos (show bI false = 0 from rfl)]; rfl
def zdr (s : Nat → Nat) (u i j : Nat) : Nat := if zhp u ≤ j ∧ j < i then s (j + 25) else s j
theorem zI_dropRule (K : Nat) (hK : 1000000 < K) {wd : Nat → Int32} {fa : Nat → Int64} {od hd : Nat → Int32} {qc : Nat → Nat → Int32} {qs : Nat → Int32} {bc : Nat → Nat → Int32} {bs : Nat → Int32} {tt rt : Int32} {H : zH12} {w : Nat → Int64} {g re fi : Nat → Int32} {ro im : Int32} {r : zR15} {ff : Int32} {now before : Nat → Int32} {ch : Int32} {row layer : Nat → Int32} {rounds : Int32} {value : Nat → Int32} (h : zIv wd fa od hd qc qs bc bs tt rt H w g re fi ro im r ff now before ch row layer rounds value) (comes : Nat → Int32) (p th : Int32) :
    ∃ e b hd' bc' bs' rt' H' im' ff' now' before' ch' row' comes' layer' rounds' value', zaph (fX11_dropRule K wd fa od qc qs tt p hd bc bs rt) H im ff = some (e, hd', bc', bs', rt', zgh H' (im', ff')) ∧ fX12_dropRule K p now before ch th row comes layer rounds value = some (b.1, now', before', ch', b.2, row', comes', layer', rounds', value') ∧ zAg [0] 0 e b ∧ zIv wd fa od hd' qc qs bc' bs' tt rt' H' w g re fi ro im' r ff' now' before' ch' row' layer' rounds' value' := by
  have h0 := h
  obtain ⟨s, M, hW, hM, hM4, hS, hH, hg, hff, hm, hrow, hl, hro, hval⟩ := h
  have hrt := hS.2.2.2.2.2.1
  subst hrt
  have hr5 := hW.2.2.2.2.2.2.1.1
  have c2 : (2654 : Int32).toNatClampNeg = 2654 := by decide
  have i2 : inB (2654 : Int32) 2780 = true := by decide
  rcases zC_rule hm hr5 p with ⟨u, hu, rfl, e1, e2⟩ | ⟨e1, e2⟩
  · obtain ⟨H', before', ch', ek1, ek2, hH'⟩ := zKeepU K (by omega) hW hS hH hm ff
    obtain ⟨hd', bc', bs', ec, hc⟩ := zX9_closeRule K (by omega) hu hr5 hd bc bs
    obtain ⟨hW', hS'⟩ := zWF_drop hW hS hu hc
    have hz4 : fX12_headAt (4 : Int32) = some (nI 2755) := zX12_headAt 4
    have hz : zhp u = 2655 + 25 * u := rfl
    obtain ⟨nw, hnw, er⟩ := z_forD (F := fun k i (nw : Nat → Int32) => fX12_dropRule_29 K (nI u) k (nI i) nw before' ch' 0 row comes layer rounds value) (n := 2755) (inv := fun i nw => zhp u ≤ i ∧ zM nw (zdr s u i)) (D := fun nw => (fX12_follows K (upd nw 2654 (nw 2654 - (1 : Int32))) row comes layer rounds value).bind fun q72 => some (upd nw 2654 (nw 2654 - (1 : Int32)) 2654, upd nw 2654 (nw 2654 - (1 : Int32)), before', ch', 0, q72.1, q72.2.1, q72.2.2.1, q72.2.2.2.1, q72.2.2.2.2))
      (by
        intro k i nw hi hv
        obtain ⟨hlo, hv⟩ := hv
        refine ⟨upd nw i (nI (s (i + 25))), ⟨by omega, ?_⟩, ?_⟩
        · intro j hj
          have hj25 := (hm (i + 25) (by omega)).2
          have hh := hv j hj
          unfold zdr at hh ⊢
          rw [zu_at]
          by_cases g : j = i
          · rw [if_pos g, if_pos (show zhp u ≤ j ∧ j < i + 1 from ⟨by omega, by omega⟩), g]
            exact ⟨rfl, hj25⟩
          · rw [if_neg g]
            by_cases g2 : zhp u ≤ j ∧ j < i
            · rw [if_pos g2] at hh
              rw [if_pos (show zhp u ≤ j ∧ j < i + 1 from ⟨g2.1, by omega⟩)]
              exact hh
            · rw [if_neg g2] at hh
              rw [if_neg (show ¬ (zhp u ≤ j ∧ j < i + 1) by omega)]
              exact hh
        · show fX12_dropRule_29 K (nI u) (k + 1) (nI i) nw before' ch' 0 row comes layer rounds value = _
          have e25 : nI i + (25 : Int32) = nI (i + 25) := by rw [show (25 : Int32) = nI 25 from rfl, zi_add]
          have hn25 : nw (i + 25) = nI (s (i + 25)) := by
            have := (hv (i + 25) (by omega)).1
            unfold zdr at this
            rw [if_neg (show ¬ (zhp u ≤ i + 25 ∧ i + 25 < i) by omega)] at this
            exact this
          rw [fX12_dropRule_29, hz4, Option.bind_some, if_neg (by rw [zi_le (by omega) (by omega)]; omega), e25, if_pos (by rw [zi_inB (by omega)]; omega), if_pos (by rw [zi_inB (by omega)]; omega), zi_clamp (by omega), zi_clamp (by omega), hn25, ← nI_succ])
      (by
        intro k nw hv
        show fX12_dropRule_29 K (nI u) (k + 1) (nI 2755) nw before' ch' 0 row comes layer rounds value = _
        rw [fX12_dropRule_29, hz4, Option.bind_some, if_pos (by rw [zi_le (by omega) (by omega)]; omega), if_pos i2, if_pos i2, c2]
        apply congrArg
        funext q72
        rw [if_pos i2]) (2755 - zhp u) K (zhp u) now (by omega) ⟨Nat.le_refl _, by
          intro j hj
          unfold zdr
          rw [if_neg (show ¬ (zhp u ≤ j ∧ j < zhp u) by omega)]
          exact hm j hj⟩ (by omega)
    obtain ⟨_, hnw⟩ := hnw
    have hn2 : nw 2654 - (1 : Int32) = nI (zrn s - 1) := by
      have := (hnw 2654 (by omega)).1
      unfold zdr at this
      rw [if_neg (show ¬ (zhp u ≤ 2654 ∧ 2654 < 2755) by omega)] at this
      rw [this, show (1 : Int32) = nI 1 from rfl, zi_sub (show 1 ≤ s 2654 from by have : s 2654 = zrn s := rfl; omega)]
      rfl
    have hm' : zM (upd nw 2654 (nI (zrn s - 1))) (zdrop s u) := by
      intro j hj
      have hh := hnw j hj
      have hr1 : s 2654 = zrn s := rfl
      rw [zu_at]
      unfold zdr at hh
      unfold zdrop
      by_cases g : j = 2654
      · rw [if_pos g, if_pos g, hr1]
        exact ⟨rfl, by omega⟩
      · rw [if_neg g, if_neg g]
        exact hh
    obtain ⟨M', row', comes', layer', rounds', value', a1, a2, efo, a3, a4, a5, a6⟩ := zFol K hK hm' hW' row comes layer rounds hval
    refine ⟨.inr (nI (zrn s - 1)), (nI (zrn s - 1), 0), hd', bc', bs', nI (zrn s - 1), H', 0, -1, _, before', ch', row', comes', layer', rounds', value', ?_, ?_, Or.inr ⟨_, rfl, rfl⟩, ⟨_, M', hW', a1, a2, hS', hH', Or.inl rfl, Or.inl rfl, hm', a3, a4, a5, a6⟩⟩
    · unfold zaph fX11_dropRule
      rw [e1, Option.bind_some]
      show ((zaph (fX11_keepForUndo K wd fa od hd qc qs bc bs tt (nI (zrn s))) H ff).bind _) = _
      rw [ek1, Option.bind_some]
      show ((fX9_closeRule K (nI u) hd bc bs (nI (zrn s))).bind fun q21 => some ((Sum.inr q21.2.2.2 : Nat ⊕ Int32), (q21.1, q21.2.1, q21.2.2.1, q21.2.2.2, zgh H' ((0 : Int32), (-1 : Int32))))) = _
      rw [ec, Option.bind_some]
    · unfold fX12_dropRule fX12_fails
      rw [e2, Option.bind_some, if_neg (show ¬ bI true = 0 by decide), ek2, Option.bind_some, zX12_headAt, Option.bind_some]
      refine er.trans ?_
      rw [hn2, efo, Option.bind_some, zu_same]
  · refine ⟨.inl 0, (0, 1), hd, bc, bs, nI (zrn s), H, im, ff, now, before, ch, row, comes, layer, rounds, value, ?_, ?_, Or.inl ⟨0, by decide, rfl, rfl⟩, h0⟩
    · unfold zaph fX11_dropRule
      rw [e1]; rfl
    · unfold fX12_dropRule fX12_fails
      rw [e2, Option.bind_some, if_pos (show bI false = 0 from rfl)]; rfl
theorem zI_undo (K : Nat) (hK : 1000000 < K) {wd : Nat → Int32} {fa : Nat → Int64} {od hd : Nat → Int32} {qc : Nat → Nat → Int32} {qs : Nat → Int32} {bc : Nat → Nat → Int32} {bs : Nat → Int32} {tt rt : Int32} {H : zH12} {w : Nat → Int64} {g re fi : Nat → Int32} {ro im : Int32} {r : zR15} {ff : Int32} {now before : Nat → Int32} {ch : Int32} {row layer : Nat → Int32} {rounds : Int32} {value : Nat → Int32} (h : zIv wd fa od hd qc qs bc bs tt rt H w g re fi ro im r ff now before ch row layer rounds value) (comes : Nat → Int32) (th : Int32) :
    ∃ a wd' fa' od' hd' qc' qs' bc' bs' tt' rt' nx' kp' im' ff' now' ch' row' comes' layer' rounds' value', fX11_undo K H.1 H.2.1 H.2.2.1 H.2.2.2.1 H.2.2.2.2.1 H.2.2.2.2.2.1 H.2.2.2.2.2.2.1 H.2.2.2.2.2.2.2.1 H.2.2.2.2.2.2.2.2.1 H.2.2.2.2.2.2.2.2.2.1 wd fa od hd qc qs bc bs tt rt H.2.2.2.2.2.2.2.2.2.2.1 H.2.2.2.2.2.2.2.2.2.2.2 im ff = some (a, wd', fa', od', hd', qc', qs', bc', bs', tt', rt', nx', kp', im', ff') ∧ fX12_undo K before now ch th row comes layer rounds value = some (a, now', ch', 0, row', comes', layer', rounds', value') ∧ zIv wd' fa' od' hd' qc' qs' bc' bs' tt' rt' (H.1, H.2.1, H.2.2.1, H.2.2.2.1, H.2.2.2.2.1, H.2.2.2.2.2.1, H.2.2.2.2.2.2.1, H.2.2.2.2.2.2.2.1, H.2.2.2.2.2.2.2.2.1, H.2.2.2.2.2.2.2.2.2.1, nx', kp') w g re fi ro im' r ff' now' before ch' row' layer' rounds' value' := by
  have h0 := h
  obtain ⟨s, M, hW, hM, hM4, hS, hH, hg, hff, hm, hrow, hl, hro, hval⟩ := h
  have hH2 := hH
  obtain ⟨n, k, HH, x1, x2, x3, x4, x5, x6⟩ := hH2
  unfold fX11_undo fX12_undo
  by_cases g : ch = 0
  · have gk : H.2.2.2.2.2.2.2.2.2.2.2 = 0 := by rw [x2, ← x3]; exact g
    rw [if_pos g, if_pos gk]
    exact ⟨_, wd, fa, od, hd, qc, qs, bc, bs, tt, rt, _, _, im, ff, now, ch, row, comes, layer, rounds, value, rfl, rfl, h0⟩
  · have gk : ¬ H.2.2.2.2.2.2.2.2.2.2.2 = 0 := by rw [x2, ← x3]; exact g
    obtain ⟨nx', kp', wd', fa', od', hd', qc', qs', bc', bs', tt', rt', s', eb, ekp, hW', hS', hH', ecp, hm'⟩ := zBack K (by omega) hH g wd fa od hd qc qs bc bs tt rt now
    obtain ⟨M', row', comes', layer', rounds', value', a1, a2, efo, a3, a4, a5, a6⟩ := zFol K hK hm' hW' row comes layer rounds hval
    rw [if_neg g, if_neg gk, eb, Option.bind_some, if_pos ecp, efo, Option.bind_some]
    refine ⟨ch - 1, wd', fa', od', hd', qc', qs', bc', bs', tt', rt', nx', kp', 0, -1, _, ch - 1, row', comes', layer', rounds', value', ?_, rfl, ⟨s', M', hW', a1, a2, hS', hH', Or.inl rfl, Or.inl rfl, hm', a3, a4, a5, a6⟩⟩
    rw [ekp]
    rfl
