/-! changes: a table, an order, a query emptied, an atom more -/
theorem zC_13 (p : Int32) : (∃ c, 1 ≤ c ∧ c ≤ 3 ∧ p = nI c ∧ ¬ p < (1 : Int32) ∧ p ≤ (3 : Int32) ∧ fX12_in p 1 3 = some true) ∨ ((p < (1 : Int32) ∨ (¬ p < (1 : Int32) ∧ ¬ p ≤ (3 : Int32))) ∧ fX12_in p 1 3 = some false) := by
  unfold fX12_in
  have e1 : (1 : Int32) = nI 1 := rfl
  have e3 : (3 : Int32) = nI 3 := rfl
  by_cases g : p < (1 : Int32)
  · right; rw [if_pos g]; exact ⟨Or.inl g, rfl⟩
  · have g0 : ¬ p < 0 := by
      intro h
      apply g
      rw [Int32.lt_iff_toInt_lt] at h ⊢
      have a : (0 : Int32).toInt = 0 := by decide
      have b : (1 : Int32).toInt = 1 := by decide
      omega
    obtain ⟨n, hn, rfl⟩ := zI_ex p g0
    have g1 := g
    rw [e1, zi_lt hn (by omega)] at g1
    by_cases g3 : n ≤ 3
    · left
      refine ⟨n, by omega, g3, rfl, g, by rw [e3, zi_le hn (by omega)]; exact g3, ?_⟩
      rw [if_neg g, if_neg (by rw [e3, zi_lt (by omega) hn]; omega)]
    · right
      refine ⟨Or.inr ⟨g, by rw [e3, zi_le hn (by omega)]; exact g3⟩, ?_⟩
      rw [if_neg g, if_pos (by rw [e3, zi_lt (by omega) hn]; omega)]
theorem zI_addTable (K : Nat) (hK : 1000000 < K) {wd : Nat → Int32} {fa : Nat → Int64} {od hd : Nat → Int32} {qc : Nat → Nat → Int32} {qs : Nat → Int32} {bc : Nat → Nat → Int32} {bs : Nat → Int32} {tt rt : Int32} {H : zH12} {w : Nat → Int64} {g re fi : Nat → Int32} {ro im : Int32} {r : zR15} {ff : Int32} {now before : Nat → Int32} {ch : Int32} {row layer : Nat → Int32} {rounds : Int32} {value : Nat → Int32} (h : zIv wd fa od hd qc qs bc bs tt rt H w g re fi ro im r ff now before ch row layer rounds value) (comes : Nat → Int32) (p th : Int32) :
    ∃ e b wd' tt' H' im' ff' now' before' ch' row' comes' layer' rounds' value', zaph (fX11_addTable K fa od hd qc qs bc bs rt p wd tt) H im ff = some (e, wd', tt', zgh H' (im', ff')) ∧ fX12_addTable K p now before ch th row comes layer rounds value = some (b.1, now', before', ch', b.2, row', comes', layer', rounds', value') ∧ zAgT e b ∧ zIv wd' fa od hd qc qs bc bs tt' rt H' w g re fi ro im' r ff' now' before' ch' row' layer' rounds' value' := by
  have h0 := h
  obtain ⟨s, M, hW, hM, hM4, hS, hH, hg, hff, hm, hrow, hl, hro, hval⟩ := h
  have htt := hS.1
  subst htt
  have c0 : (0 : Int32).toNatClampNeg = 0 := by decide
  have i0 : inB (0 : Int32) 2780 = true := by decide
  have n0 := (hm 0 (by omega)).1
  have hs5 := hW.1
  have e5 : (5 : Int32) = nI 5 := rfl
  rcases zC_13 p with ⟨c, k1, k3, rfl, g1, g2, g3⟩ | ⟨g1, g3⟩
  · by_cases h5 : s 0 = 5
    · refine ⟨.inl 2, (0, 2), wd, nI (s 0), H, im, ff, now, before, ch, row, comes, layer, rounds, value, ?_, ?_, Or.inl ⟨2, rfl, Or.inr rfl, rfl⟩, h0⟩
      · unfold zaph fX11_addTable
        rw [if_neg g1, if_pos g2, if_neg (by rw [e5, zi_lt (by omega) (by omega)]; omega)]
        rfl
      · unfold fX12_addTable fX12_fails
        rw [g3, Option.bind_some, if_neg (show ¬ bI true = 0 by decide), if_pos i0, c0, n0, if_pos (by rw [h5]; rfl)]
        rfl
    · obtain ⟨H', before', ch', ek1, ek2, hH'⟩ := zKeepU K (by omega) hW hS hH hm ff
      obtain ⟨hW', hS'⟩ := zWF_table hW hS (show s 0 < 5 by omega) k1 k3
      have hm' : zM (upd (upd now (1 + s 0) (nI c)) 0 (nI (s 0 + 1))) (zup (zup s (1 + s 0) c) 0 (s 0 + 1)) := zM_up (zM_up hm (by omega)) (by omega)
      obtain ⟨M', row', comes', layer', rounds', value', a1, a2, ef, a3, a4, a5, a6⟩ := zFol K hK hm' hW' row comes layer rounds hval
      refine ⟨.inr (nI (s 0)), (nI (s 0), 0), _, _, H', 0, -1, _, before', ch', row', comes', layer', rounds', value', ?_, ?_, Or.inr ⟨_, rfl, rfl⟩, ⟨_, M', hW', a1, a2, hS', hH', Or.inl rfl, Or.inl rfl, hm', a3, a4, a5, a6⟩⟩
      · unfold zaph fX11_addTable
        rw [if_neg g1, if_pos g2, if_pos (by rw [e5, zi_lt (by omega) (by omega)]; omega)]
        show ((zaph (fX11_keepForUndo K wd fa od hd qc qs bc bs (nI (s 0)) rt) H ff).bind _) = _
        rw [ek1, Option.bind_some]
        show ((fX9_openTable (nI c) wd (nI (s 0))).bind fun q57 => some ((Sum.inr (q57.2 - (1 : Int32)) : Nat ⊕ Int32), (q57.1, q57.2, zgh H' ((0 : Int32), (-1 : Int32))))) = _
        unfold fX9_openTable
        rw [zX6_put (nI c) wd (show s 0 < 5 by omega) (by omega), Option.bind_some, ← nI_succ, Option.bind_some]
        have : nI (s 0 + 1) - (1 : Int32) = nI (s 0) := by rw [show (1 : Int32) = nI 1 from rfl, zi_sub (by omega)]; rfl
        rw [this]
      · unfold fX12_addTable fX12_fails
        have e1 : (1 : Int32) + nI (s 0) = nI (1 + s 0) := by rw [show (1 : Int32) = nI 1 from rfl, zi_add]
        have ei : ((1 : Int32) + nI (s 0)).toNatClampNeg = 1 + s 0 := by rw [e1, zi_clamp (by omega)]
        have i1 : inB ((1 : Int32) + nI (s 0)) 2780 = true := by rw [e1, zi_inB (by omega)]; omega
        have u1 : upd now (1 + s 0) (nI c) 0 = nI (s 0) := by rw [zu_ne now (nI c) (by omega)]; exact n0
        have u2 : upd (upd now (1 + s 0) (nI c)) 0 (nI (s 0 + 1)) 0 = nI (s 0 + 1) := zu_same _ _ _
        have u3 : nI (s 0 + 1) - (1 : Int32) = nI (s 0) := by rw [show (1 : Int32) = nI 1 from rfl, zi_sub (by omega)]; rfl
        rw [g3, Option.bind_some, if_neg (show ¬ bI true = 0 by decide), if_pos i0, c0, n0, if_neg (by rw [e5, zi_eq (by omega) (by omega)]; exact h5), ek2, Option.bind_some, if_pos i0, if_pos i1, if_pos i0, if_pos i0, ei, u1, ← nI_succ, ef, Option.bind_some, if_pos i0, u2, u3]
  · refine ⟨.inl 1, (0, 1), wd, nI (s 0), H, im, ff, now, before, ch, row, comes, layer, rounds, value, ?_, ?_, Or.inl ⟨1, rfl, Or.inl rfl, rfl⟩, h0⟩
    · unfold zaph fX11_addTable
      rcases g1 with g | ⟨g, g'⟩
      · rw [if_pos g]; rfl
      · rw [if_neg g, if_neg g']; rfl
    · unfold fX12_addTable fX12_fails
      rw [g3, Option.bind_some, if_pos (show bI false = 0 from rfl)]
      rfl
theorem zI_clearQuery (K : Nat) (hK : 1000000 < K) {wd : Nat → Int32} {fa : Nat → Int64} {od hd : Nat → Int32} {qc : Nat → Nat → Int32} {qs : Nat → Int32} {bc : Nat → Nat → Int32} {bs : Nat → Int32} {tt rt : Int32} {H : zH12} {w : Nat → Int64} {g re fi : Nat → Int32} {ro im : Int32} {r : zR15} {ff : Int32} {now before : Nat → Int32} {ch : Int32} {row layer : Nat → Int32} {rounds : Int32} {value : Nat → Int32} (h : zIv wd fa od hd qc qs bc bs tt rt H w g re fi ro im r ff now before ch row layer rounds value) (p th : Int32) :
    ∃ e b qs' H' ff' now' before' ch', zaph (fX11_clearQuery K wd fa od hd qc bc bs tt rt p qs) H ff = some (e, qs', zgh H' ff') ∧ fX12_clearQuery p now before ch th = some (b.1, now', before', ch', b.2) ∧ zAg [0] 0 e b ∧ zIv wd fa od hd qc qs' bc bs tt rt H' w g re fi ro im r ff' now' before' ch' row layer rounds value := by
  have h0 := h
  obtain ⟨s, M, hW, hM, hM4, hS, hH, hg, hff, hm, hrow, hl, hro, hval⟩ := h
  rcases zC_query p with ⟨k, hk, rfl, e1, e2⟩ | ⟨e1, e2⟩
  · obtain ⟨H', before', ch', ek1, ek2, hH'⟩ := zKeepU K (by omega) hW hS hH hm ff
    obtain ⟨hW', hS', hR, hf⟩ := zWF_clear hW hS hk
    have hm' : zM (upd now (2570 + 21 * k) (nI 0)) (zup s (2570 + 21 * k) 0) := zM_up hm (by omega)
    refine ⟨.inr (nI (zqn s k)), (nI (zqn s k), 0), _, H', -1, _, before', ch', ?_, ?_, Or.inr ⟨_, rfl, rfl⟩, zIv_same hW hM hM4 hg hrow hl hro hval r hW' hS' hR hf hH' hm'⟩
    · unfold zaph fX11_clearQuery
      rw [e1, Option.bind_some]
      show ((fX9_query (nI k)).bind _) = _
      rw [zX9_query hk, Option.bind_some, if_pos hk]
      show ((zaph (fX11_keepForUndo K wd fa od hd qc qs bc bs tt rt) H ff).bind _) = _
      rw [ek1, Option.bind_some, (hS.2.2.2.2.1 k hk).1]
      rfl
    · unfold fX12_clearQuery fX12_fails
      have e3 : (2570 : Int32) + ((21 : Int32) * nI k) = nI (2570 + 21 * k) := by rw [show (2570 : Int32) = nI 2570 from rfl, show (21 : Int32) = nI 21 from rfl, zi_mul, zi_add]
      rw [e2, Option.bind_some, if_neg (show ¬ bI true = 0 by decide), ek2, Option.bind_some, zX12_atoms hm hk, Option.bind_some, e3, if_pos (by rw [zi_inB (by omega)]; omega), zi_clamp (by omega)]
      rfl
  · refine ⟨.inl 0, (0, 1), qs, H, ff, now, before, ch, ?_, ?_, Or.inl ⟨0, by decide, rfl, rfl⟩, h0⟩
    · unfold zaph fX11_clearQuery
      rw [e1]; rfl
    · unfold fX12_clearQuery fX12_fails
      rw [e2, Option.bind_some, if_pos (show bI false = 0 from rfl)]; rfl
theorem zI_addAtom (K : Nat) (hK : 1000000 < K) {wd : Nat → Int32} {fa : Nat → Int64} {od hd : Nat → Int32} {qc : Nat → Nat → Int32} {qs : Nat → Int32} {bc : Nat → Nat → Int32} {bs : Nat → Int32} {tt rt : Int32} {H : zH12} {w : Nat → Int64} {g re fi : Nat → Int32} {ro im : Int32} {r : zR15} {ff : Int32} {now before : Nat → Int32} {ch : Int32} {row layer : Nat → Int32} {rounds : Int32} {value : Nat → Int32} (h : zIv wd fa od hd qc qs bc bs tt rt H w g re fi ro im r ff now before ch row layer rounds value) (p p2 p3 p4 p5 th : Int32) :
    ∃ e b qc' qs' H' ff' now' before' ch', zaph (fX11_addAtom K wd fa od hd bc bs tt rt p p2 p3 p4 p5 qc qs) H ff = some (e, qc', qs', zgh H' ff') ∧ fX12_addAtom p p2 p3 p4 p5 now before ch th = some (b.1, now', before', ch', b.2) ∧ zAg [0, 1, 2] 0 e b ∧ zIv wd fa od hd qc' qs' bc bs tt rt H' w g re fi ro im r ff' now' before' ch' row layer rounds value := by
  have h0 := h
  obtain ⟨s, M, hW, hM, hM4, hS, hH, hg, hff, hm, hrow, hl, hro, hval⟩ := h
  have htt := hS.1
  subst htt
  have hs5 := hW.1
  have e5 : (5 : Int32) = nI 5 := rfl
  have hwd := hS.2.1
  rcases zC_query p with ⟨k, hk, rfl, e1, e2⟩ | ⟨e1, e2⟩
  · obtain ⟨q1, q2, q3⟩ := hW.2.2.2.2.2.1 k hk
    obtain ⟨b1, b2⟩ := hS.2.2.2.2.1 k hk
    rcases zC_table hm hW.1 p2 with ⟨t, ht, rfl, e3, e4⟩ | ⟨e3, e4⟩
    · obtain ⟨c1, c3⟩ := hW.2.1 t ht
      rcases zC_vars hm hW hwd ht p3 p4 p5 with ⟨x, y, z, hx, hy, hz, rfl, rfl, rfl, e5', e6⟩ | ⟨e5', e6⟩
      · by_cases hn5 : zqn s k = 5
        · refine ⟨.inl 2, (0, 3), qc, qs, H, ff, now, before, ch, ?_, ?_, Or.inl ⟨2, by decide, rfl, rfl⟩, h0⟩
          · unfold zaph fX11_addAtom
            rw [e1, Option.bind_some]
            show ((fX11_needTable (nI (s 0)) (nI t)).bind _) = _
            rw [e3, Option.bind_some]
            show ((fX11_needVariables wd (nI t) (nI x) (nI y) (nI z)).bind _) = _
            rw [e5', Option.bind_some]
            show ((fX9_query (nI k)).bind _) = _
            rw [zX9_query hk, Option.bind_some, if_pos hk, b1, if_neg (by rw [e5, zi_lt (by omega) (by omega)]; omega)]
            rfl
          · unfold fX12_addAtom fX12_addAtom_20 fX12_fails
            rw [e2, Option.bind_some, if_neg (show ¬ bI true = 0 by decide), e4, Option.bind_some, if_neg (show ¬ bI true = 0 by decide), e6, Option.bind_some, if_neg (show ¬ bI true = 0 by decide), zX12_atoms hm hk, Option.bind_some, if_pos (by rw [hn5]; rfl)]
            rfl
        · have hn := q1.1
          obtain ⟨H', before', ch', ek1, ek2, hH'⟩ := zKeepU K (by omega) hW hS hH hm ff
          obtain ⟨hW', hS', hR, hf⟩ := zWF_atom hW hS hk (show zqn s k < 5 by omega) ht hx hy hz rfl
          have hzp : zqp k (zqn s k) + 3 < 2780 := by unfold zqp; omega
          obtain ⟨now1, el, hm1⟩ := zX12_laysHead hm (x := x) (y := y) (z := z) (t := t) hzp (by omega) (by omega) (by omega) (by omega)
          have hq1 : now1 (2570 + 21 * k) = nI (zqn s k) := by
            rw [(hm1 (2570 + 21 * k) (by omega)).1, zlay_ne s (Or.inl (by unfold zqp; omega))]
            rfl
          have hm' : zM (upd now1 (2570 + 21 * k) (nI (zqn s k + 1))) (zup (zlay s (zqp k (zqn s k)) t x y z) (2570 + 21 * k) (zqn s k + 1)) := zM_up hm1 (by omega)
          have e7 : (2570 : Int32) + ((21 : Int32) * nI k) = nI (2570 + 21 * k) := by rw [show (2570 : Int32) = nI 2570 from rfl, show (21 : Int32) = nI 21 from rfl, zi_mul, zi_add]
          have elay : fX12_laysAtom (nI k) (nI t) (nI x) (nI y) (nI z) now = some (upd now1 (2570 + 21 * k) (nI (zqn s k + 1))) := by
            unfold fX12_laysAtom
            rw [zX12_atoms hm hk, Option.bind_some, zX12_atomAt, Option.bind_some, el, Option.bind_some, e7, if_pos (by rw [zi_inB (by omega)]; omega), if_pos (by rw [zi_inB (by omega)]; omega), zi_clamp (by omega), hq1, ← nI_succ]
          have hsub : nI (zqn s k + 1) - (1 : Int32) = nI (zqn s k) := by rw [show (1 : Int32) = nI 1 from rfl, zi_sub (by omega)]; rfl
          have hzn : zqn (zup (zlay s (zqp k (zqn s k)) t x y z) (2570 + 21 * k) (zqn s k + 1)) k = zqn s k + 1 := zup_at _ _ _
          have hadd := (zX2_add b2 (show zqn s k < 5 by omega) (a := (t, s (1 + t), x, y, z)) (b := false) ⟨by show t < 5; omega, c1, c3, hx, hy, hz⟩).1
          refine ⟨.inr (nI (zqn s k)), (nI (zqn s k), 0), _, _, H', -1, _, before', ch', ?_, ?_, Or.inr ⟨_, rfl, rfl⟩, zIv_same hW hM hM4 hg hrow hl hro hval r hW' hS' hR hf hH' hm'⟩
          · unfold zaph fX11_addAtom
            rw [e1, Option.bind_some]
            show ((fX11_needTable (nI (s 0)) (nI t)).bind _) = _
            rw [e3, Option.bind_some]
            show ((fX11_needVariables wd (nI t) (nI x) (nI y) (nI z)).bind _) = _
            rw [e5', Option.bind_some]
            show ((fX9_query (nI k)).bind _) = _
            rw [zX9_query hk, Option.bind_some, if_pos hk, b1, if_pos (by rw [e5, zi_lt (by omega) (by omega)]; omega)]
            show ((zaph (fX11_keepForUndo K wd fa od hd qc qs bc bs (nI (s 0)) rt) H ff).bind _) = _
            rw [ek1, Option.bind_some, zX6_at wd (show t < 5 by omega) (by omega), Option.bind_some, hwd t ht, zX1_code (by omega) c1 c3 hx hy hz, Option.bind_some, hadd, Option.bind_some]
            show some ((Sum.inr (zup qs k (nI (zqn s k + 1)) k - (1 : Int32)) : Nat ⊕ Int32), _) = _
            rw [zup_at, hsub]
          · unfold fX12_addAtom fX12_addAtom_20 fX12_fails
            rw [e2, Option.bind_some, if_neg (show ¬ bI true = 0 by decide), e4, Option.bind_some, if_neg (show ¬ bI true = 0 by decide), e6, Option.bind_some, if_neg (show ¬ bI true = 0 by decide), zX12_atoms hm hk, Option.bind_some, if_neg (by rw [e5, zi_eq (by omega) (by omega)]; exact hn5), ek2, Option.bind_some, elay, Option.bind_some, zX12_atoms hm' hk, Option.bind_some, hzn, hsub]
      · refine ⟨.inl 1, (0, 2), qc, qs, H, ff, now, before, ch, ?_, ?_, Or.inl ⟨1, by decide, rfl, rfl⟩, h0⟩
        · unfold zaph fX11_addAtom
          rw [e1, Option.bind_some]
          show ((fX11_needTable (nI (s 0)) (nI t)).bind _) = _
          rw [e3, Option.bind_some]
          show ((fX11_needVariables wd (nI t) p3 p4 p5).bind _) = _
          rw [e5']; rfl
        · unfold fX12_addAtom fX12_addAtom_20 fX12_fails
          rw [e2, Option.bind_some, if_neg (show ¬ bI true = 0 by decide), e4, Option.bind_some, if_neg (show ¬ bI true = 0 by decide), e6, Option.bind_some, if_pos (show bI false = 0 from rfl)]
          rfl
    · refine ⟨.inl 0, (0, 1), qc, qs, H, ff, now, before, ch, ?_, ?_, Or.inl ⟨0, by decide, rfl, rfl⟩, h0⟩
      · unfold zaph fX11_addAtom
        rw [e1, Option.bind_some]
        show ((fX11_needTable (nI (s 0)) p2).bind _) = _
        rw [e3]; rfl
      · unfold fX12_addAtom fX12_addAtom_20 fX12_fails
        rw [e2, Option.bind_some, if_neg (show ¬ bI true = 0 by decide), e4, Option.bind_some, if_pos (show bI false = 0 from rfl)]
        rfl
  · refine ⟨.inl 0, (0, 1), qc, qs, H, ff, now, before, ch, ?_, ?_, Or.inl ⟨0, by decide, rfl, rfl⟩, h0⟩
    · unfold zaph fX11_addAtom
      rw [e1]; rfl
    · unfold fX12_addAtom fX12_addAtom_20 fX12_fails
      rw [e2, Option.bind_some, if_pos (show bI false = 0 from rfl)]; rfl
