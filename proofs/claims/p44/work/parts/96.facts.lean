/-! a fact told, a fact taken back -/
theorem zin_tab {s : Nat → Nat} {fa : Nat → Int64} {t : Nat} (ht : t < 5) (hfa : zeqR (zw fa) (zfacts s)) : zcnt (zw fa t) 512 = zcnt (zfacts s t) 512 := zcnt_cong (fun j hj => hfa t j ht hj)
theorem zI_addFact (K : Nat) (hK : 1000000 < K) {wd : Nat → Int32} {fa : Nat → Int64} {od hd : Nat → Int32} {qc : Nat → Nat → Int32} {qs : Nat → Int32} {bc : Nat → Nat → Int32} {bs : Nat → Int32} {tt rt : Int32} {H : zH12} {w : Nat → Int64} {g re fi : Nat → Int32} {ro im : Int32} {r : zR15} {ff : Int32} {now before : Nat → Int32} {ch : Int32} {row layer : Nat → Int32} {rounds : Int32} {value : Nat → Int32} (h : zIv wd fa od hd qc qs bc bs tt rt H w g re fi ro im r ff now before ch row layer rounds value) (comes : Nat → Int32) (p p2 p3 p4 th : Int32) :
    ∃ e b fa' H' im' ff' now' before' ch' row' comes' layer' rounds' value', zaph (fX11_addFact K wd od hd qc qs bc bs tt rt p p2 p3 p4 fa) H im ff = some (e, fa', zgh H' (im', ff')) ∧ fX12_addFact K p p2 p3 p4 now before ch th row comes layer rounds value = some (b.1, now', before', ch', b.2, row', comes', layer', rounds', value') ∧ zAg [0, 1, 2] 0 e b ∧ zIv wd fa' od hd qc qs bc bs tt rt H' w g re fi ro im' r ff' now' before' ch' row' layer' rounds' value' := by
  have h0 := h
  obtain ⟨s, M, hW, hM, hM4, hS, hH, hg, hff, hm, hrow, hl, hro, hval⟩ := h
  have htt := hS.1
  subst htt
  have hs5 := hW.1
  have hwd := hS.2.1
  have hfa := hS.2.2.1
  have e60 : (60 : Int32) = nI 60 := rfl
  rcases zC_table hm hW.1 p with ⟨t, ht, rfl, e1, e2⟩ | ⟨e1, e2⟩
  · rcases zC_row hm hW hwd ht p2 p3 p4 with ⟨k, hk, hz, e3, e4, e5, e6⟩ | ⟨e3, e4⟩
    · have hcnt := hW.2.2.2.2.1 t (by omega)
      have hcc := zin_tab (show t < 5 by omega) hfa
      have hc0 : ∀ {y}, ((fX11_rowOf p2 p3 p4).bind fun q18 => (fX7_has fa (nI t) q18).bind fun q33 => if bI q33 = 0 then ((fX7_size K fa (nI t)).bind fun q57 => if q57 < (60 : Int32) then ((zaph (fX11_keepForUndo K wd fa od hd qc qs bc bs (nI (s 0)) rt) H ff).bind fun q76 => (fX4_forget im).bind fun q83 => (fX7_add (nI t) q18 fa).bind fun q96 => (fX7_size K q96 (nI t)).bind fun q107 => some ((Sum.inr q107 : Nat ⊕ Int32), (q96, q76.1, q76.2.1, q76.2.2.1, q76.2.2.2.1, q76.2.2.2.2.1, q76.2.2.2.2.2.1, q76.2.2.2.2.2.2.1, q76.2.2.2.2.2.2.2.1, q76.2.2.2.2.2.2.2.2.1, q76.2.2.2.2.2.2.2.2.2.1, q76.2.2.2.2.2.2.2.2.2.2.1, q76.2.2.2.2.2.2.2.2.2.2.2.1, q83, q76.2.2.2.2.2.2.2.2.2.2.2.2))) else some (Sum.inl 2, (fa, zgh H (im, ff)))) else some (Sum.inl 2, (fa, zgh H (im, ff)))) = y → zaph (fX11_addFact K wd od hd qc qs bc bs (nI (s 0)) rt (nI t) p2 p3 p4 fa) H im ff = y := by
        intro y hy
        unfold zaph fX11_addFact
        rw [e1, Option.bind_some]
        show ((fX11_needRow wd (nI t) p2 p3 p4).bind _) = _
        rw [e3, Option.bind_some]
        exact hy
      cases ef : zfacts s t k
      · by_cases h60 : zcnt (zfacts s t) 512 = 60
        · refine ⟨.inl 2, (0, 3), fa, H, im, ff, now, before, ch, row, comes, layer, rounds, value, hc0 ?_, ?_, Or.inl ⟨2, by decide, rfl, rfl⟩, h0⟩
          · rw [e5, Option.bind_some, zX7_has fa (show t < 5 by omega) hk, Option.bind_some, hfa t k (by omega) hk, ef, if_pos (show bI false = 0 from rfl), zX7_size K (by omega) fa (show t < 5 by omega), Option.bind_some, hcc, if_neg (by rw [e60, zi_lt (by omega) (by omega)]; omega)]
          · unfold fX12_addFact fX12_addFact_64 fX12_fails
            rw [e2, Option.bind_some, if_neg (show ¬ bI true = 0 by decide), e4, Option.bind_some, if_neg (show ¬ bI true = 0 by decide), e6, Option.bind_some, zX12_isFactAt hm (show t < 5 by omega) hk, Option.bind_some, ef, if_pos (show bI false = 0 from rfl), zX12_factsOf K (by omega) hm hW.2.2.1 (show t < 5 by omega), Option.bind_some, if_pos (by rw [h60]; rfl)]
            rfl
        · obtain ⟨H', before', ch', ek1, ek2, hH'⟩ := zKeepU K (by omega) hW hS hH hm ff
          obtain ⟨hW', hR, hQ, hT⟩ := zWF_fact (v := 1) hW ht hk (by omega) hz (fun _ => by omega)
          obtain ⟨fa', ea, hadd⟩ := zX7_add fa (show t < 5 by omega) hk
          have hf' : zeqR (zw fa') (zfacts (zup s (6 + 512 * t + k) 1)) := by
            intro t' k' ht' hk'
            rw [hadd t' k' ht' hk', zfacts_up s (by omega) hk t' k' hk', hfa t' k' ht' hk']
            by_cases g : t' = t ∧ k' = k
            · rw [if_pos g, decide_eq_true g.1, decide_eq_true g.2]; simp
            · rw [if_neg g]
              by_cases g1 : t' = t
              · rw [decide_eq_false (fun g2 => g ⟨g1, g2⟩)]; simp
              · rw [decide_eq_false g1]; simp
          have hS' := zSR_facts hS (zup_ne s 1 (by omega)) hR hQ hT hf'
          have hm' : zM (upd now (6 + 512 * t + k) (nI 1)) (zup s (6 + 512 * t + k) 1) := zM_up hm (by omega)
          obtain ⟨M', row', comes', layer', rounds', value', a1, a2, efo, a3, a4, a5, a6⟩ := zFol K hK hm' hW' row comes layer rounds hval
          refine ⟨.inr (nI (zcnt (zfacts (zup s (6 + 512 * t + k) 1) t) 512)), (_, 0), fa', H', 0, -1, _, before', ch', row', comes', layer', rounds', value', hc0 ?_, ?_, Or.inr ⟨_, rfl, rfl⟩, ⟨_, M', hW', a1, a2, hS', hH', Or.inl rfl, Or.inl rfl, hm', a3, a4, a5, a6⟩⟩
          · rw [e5, Option.bind_some, zX7_has fa (show t < 5 by omega) hk, Option.bind_some, hfa t k (by omega) hk, ef, if_pos (show bI false = 0 from rfl), zX7_size K (by omega) fa (show t < 5 by omega), Option.bind_some, hcc, if_pos (by rw [e60, zi_lt (by omega) (by omega)]; omega), ek1, Option.bind_some]
            show ((fX7_add (nI t) (nI k) fa).bind fun q96 => (fX7_size K q96 (nI t)).bind fun q107 => some ((Sum.inr q107 : Nat ⊕ Int32), (q96, zgh H' ((0 : Int32), (-1 : Int32))))) = _
            rw [ea, Option.bind_some, zX7_size K (by omega) fa' (show t < 5 by omega), Option.bind_some, zin_tab (show t < 5 by omega) hf']
          · unfold fX12_addFact fX12_addFact_64 fX12_fails
            have e7 : ((6 : Int32) + ((512 : Int32) * nI t)) + nI k = nI (6 + 512 * t + k) := by rw [show (6 : Int32) = nI 6 from rfl, show (512 : Int32) = nI 512 from rfl, zi_mul, zi_add, zi_add]
            rw [e2, Option.bind_some, if_neg (show ¬ bI true = 0 by decide), e4, Option.bind_some, if_neg (show ¬ bI true = 0 by decide), e6, Option.bind_some, zX12_isFactAt hm (show t < 5 by omega) hk, Option.bind_some, ef, if_pos (show bI false = 0 from rfl), zX12_factsOf K (by omega) hm hW.2.2.1 (show t < 5 by omega), Option.bind_some, if_neg (by rw [e60, zi_eq (by omega) (by omega)]; exact h60), ek2, Option.bind_some, Option.bind_some, e7, if_pos (by rw [zi_inB (by omega)]; omega), zi_clamp (by omega), show (1 : Int32) = nI 1 from rfl, efo, Option.bind_some, zX12_factsOf K (by omega) hm' hW'.2.2.1 (show t < 5 by omega), Option.bind_some]
      · refine ⟨.inl 2, (0, 3), fa, H, im, ff, now, before, ch, row, comes, layer, rounds, value, hc0 ?_, ?_, Or.inl ⟨2, by decide, rfl, rfl⟩, h0⟩
        · rw [e5, Option.bind_some, zX7_has fa (show t < 5 by omega) hk, Option.bind_some, hfa t k (by omega) hk, ef, if_neg (show ¬ bI true = 0 by decide)]
        · unfold fX12_addFact fX12_addFact_64 fX12_fails
          rw [e2, Option.bind_some, if_neg (show ¬ bI true = 0 by decide), e4, Option.bind_some, if_neg (show ¬ bI true = 0 by decide), e6, Option.bind_some, zX12_isFactAt hm (show t < 5 by omega) hk, Option.bind_some, ef, if_neg (show ¬ bI true = 0 by decide)]
          rfl
    · refine ⟨.inl 1, (0, 2), fa, H, im, ff, now, before, ch, row, comes, layer, rounds, value, ?_, ?_, Or.inl ⟨1, by decide, rfl, rfl⟩, h0⟩
      · unfold zaph fX11_addFact
        rw [e1, Option.bind_some]
        show ((fX11_needRow wd (nI t) p2 p3 p4).bind _) = _
        rw [e3]; rfl
      · unfold fX12_addFact fX12_fails
        rw [e2, Option.bind_some, if_neg (show ¬ bI true = 0 by decide), e4, Option.bind_some, if_pos (show bI false = 0 from rfl)]; rfl
  · refine ⟨.inl 0, (0, 1), fa, H, im, ff, now, before, ch, row, comes, layer, rounds, value, ?_, ?_, Or.inl ⟨0, by decide, rfl, rfl⟩, h0⟩
    · unfold zaph fX11_addFact
      rw [e1]; rfl
    · unfold fX12_addFact fX12_fails
      rw [e2, Option.bind_some, if_pos (show bI false = 0 from rfl)]; rfl
theorem zI_removeFact (K : Nat) (hK : 1000000 < K) {wd : Nat → Int32} {fa : Nat → Int64} {od hd : Nat → Int32} {qc : Nat → Nat → Int32} {qs : Nat → Int32} {bc : Nat → Nat → Int32} {bs : Nat → Int32} {tt rt : Int32} {H : zH12} {w : Nat → Int64} {g re fi : Nat → Int32} {ro im : Int32} {r : zR15} {ff : Int32} {now before : Nat → Int32} {ch : Int32} {row layer : Nat → Int32} {rounds : Int32} {value : Nat → Int32} (h : zIv wd fa od hd qc qs bc bs tt rt H w g re fi ro im r ff now before ch row layer rounds value) (comes : Nat → Int32) (p p2 p3 p4 th : Int32) :
    ∃ e b fa' H' im' ff' now' before' ch' row' comes' layer' rounds' value', zaph (fX11_removeFact K wd od hd qc qs bc bs tt rt p p2 p3 p4 fa) H im ff = some (e, fa', zgh H' (im', ff')) ∧ fX12_removeFact K p p2 p3 p4 now before ch th row comes layer rounds value = some (b.1, now', before', ch', b.2, row', comes', layer', rounds', value') ∧ zAg [0, 1, 3] 0 e b ∧ zIv wd fa' od hd qc qs bc bs tt rt H' w g re fi ro im' r ff' now' before' ch' row' layer' rounds' value' := by
  have h0 := h
  obtain ⟨s, M, hW, hM, hM4, hS, hH, hg, hff, hm, hrow, hl, hro, hval⟩ := h
  have htt := hS.1
  subst htt
  have hs5 := hW.1
  have hwd := hS.2.1
  have hfa := hS.2.2.1
  rcases zC_table hm hW.1 p with ⟨t, ht, rfl, e1, e2⟩ | ⟨e1, e2⟩
  · rcases zC_row hm hW hwd ht p2 p3 p4 with ⟨k, hk, hz, e3, e4, e5, e6⟩ | ⟨e3, e4⟩
    · have hc0 : ∀ {y}, ((fX11_rowOf p2 p3 p4).bind fun q18 => (fX7_has fa (nI t) q18).bind fun q33 => if bI q33 = 0 then some (Sum.inl 3, (fa, zgh H (im, ff))) else ((zaph (fX11_keepForUndo K wd fa od hd qc qs bc bs (nI (s 0)) rt) H ff).bind fun q50 => (fX4_forget im).bind fun q57 => (fX7_remove (nI t) q18 fa).bind fun q70 => (fX7_size K q70 (nI t)).bind fun q81 => some ((Sum.inr q81 : Nat ⊕ Int32), (q70, q50.1, q50.2.1, q50.2.2.1, q50.2.2.2.1, q50.2.2.2.2.1, q50.2.2.2.2.2.1, q50.2.2.2.2.2.2.1, q50.2.2.2.2.2.2.2.1, q50.2.2.2.2.2.2.2.2.1, q50.2.2.2.2.2.2.2.2.2.1, q50.2.2.2.2.2.2.2.2.2.2.1, q50.2.2.2.2.2.2.2.2.2.2.2.1, q57, q50.2.2.2.2.2.2.2.2.2.2.2.2)))) = y → zaph (fX11_removeFact K wd od hd qc qs bc bs (nI (s 0)) rt (nI t) p2 p3 p4 fa) H im ff = y := by
        intro y hy
        unfold zaph fX11_removeFact
        rw [e1, Option.bind_some]
        show ((fX11_needRow wd (nI t) p2 p3 p4).bind _) = _
        rw [e3, Option.bind_some]
        exact hy
      cases ef : zfacts s t k
      · refine ⟨.inl 3, (0, 3), fa, H, im, ff, now, before, ch, row, comes, layer, rounds, value, hc0 ?_, ?_, Or.inl ⟨3, by decide, rfl, rfl⟩, h0⟩
        · rw [e5, Option.bind_some, zX7_has fa (show t < 5 by omega) hk, Option.bind_some, hfa t k (by omega) hk, ef, if_pos (show bI false = 0 from rfl)]
        · unfold fX12_removeFact fX12_fails
          rw [e2, Option.bind_some, if_neg (show ¬ bI true = 0 by decide), e4, Option.bind_some, if_neg (show ¬ bI true = 0 by decide), e6, Option.bind_some, zX12_isFactAt hm (show t < 5 by omega) hk, Option.bind_some, ef, if_pos (show bI false = 0 from rfl)]
          rfl
      · obtain ⟨H', before', ch', ek1, ek2, hH'⟩ := zKeepU K (by omega) hW hS hH hm ff
        obtain ⟨hW', hR, hQ, hT⟩ := zWF_fact (v := 0) hW ht hk (by omega) hz (fun g => by omega)
        obtain ⟨fa', ea, hadd⟩ := zX7_remove fa (show t < 5 by omega) hk
        have hf' : zeqR (zw fa') (zfacts (zup s (6 + 512 * t + k) 0)) := by
          intro t' k' ht' hk'
          rw [hadd t' k' ht' hk', zfacts_up s (by omega) hk t' k' hk', hfa t' k' ht' hk']
          by_cases g : t' = t ∧ k' = k
          · rw [if_pos g, decide_eq_true g.1, decide_eq_true g.2]; simp
          · rw [if_neg g]
            by_cases g1 : t' = t
            · rw [decide_eq_false (fun g2 => g ⟨g1, g2⟩)]; simp
            · rw [decide_eq_false g1]; simp
        have hS' := zSR_facts hS (zup_ne s 0 (by omega)) hR hQ hT hf'
        have hm' : zM (upd now (6 + 512 * t + k) (nI 0)) (zup s (6 + 512 * t + k) 0) := zM_up hm (by omega)
        obtain ⟨M', row', comes', layer', rounds', value', a1, a2, efo, a3, a4, a5, a6⟩ := zFol K hK hm' hW' row comes layer rounds hval
        refine ⟨.inr (nI (zcnt (zfacts (zup s (6 + 512 * t + k) 0) t) 512)), (_, 0), fa', H', 0, -1, _, before', ch', row', comes', layer', rounds', value', hc0 ?_, ?_, Or.inr ⟨_, rfl, rfl⟩, ⟨_, M', hW', a1, a2, hS', hH', Or.inl rfl, Or.inl rfl, hm', a3, a4, a5, a6⟩⟩
        · rw [e5, Option.bind_some, zX7_has fa (show t < 5 by omega) hk, Option.bind_some, hfa t k (by omega) hk, ef, if_neg (show ¬ bI true = 0 by decide), ek1, Option.bind_some]
          show ((fX7_remove (nI t) (nI k) fa).bind fun q70 => (fX7_size K q70 (nI t)).bind fun q81 => some ((Sum.inr q81 : Nat ⊕ Int32), (q70, zgh H' ((0 : Int32), (-1 : Int32))))) = _
          rw [ea, Option.bind_some, zX7_size K (by omega) fa' (show t < 5 by omega), Option.bind_some, zin_tab (show t < 5 by omega) hf']
        · unfold fX12_removeFact fX12_fails
          have e7 : ((6 : Int32) + ((512 : Int32) * nI t)) + nI k = nI (6 + 512 * t + k) := by rw [show (6 : Int32) = nI 6 from rfl, show (512 : Int32) = nI 512 from rfl, zi_mul, zi_add, zi_add]
          rw [e2, Option.bind_some, if_neg (show ¬ bI true = 0 by decide), e4, Option.bind_some, if_neg (show ¬ bI true = 0 by decide), e6, Option.bind_some, zX12_isFactAt hm (show t < 5 by omega) hk, Option.bind_some, ef, if_neg (show ¬ bI true = 0 by decide), ek2, Option.bind_some, Option.bind_some, e7, if_pos (by rw [zi_inB (by omega)]; omega), zi_clamp (by omega)]
          have efo' : fX12_follows K (upd now (6 + 512 * t + k) (0 : Int32)) row comes layer rounds value = some (row', comes', layer', rounds', value') := efo
          have efc : fX12_factsOf K (upd now (6 + 512 * t + k) (0 : Int32)) (nI t) = some (nI (zcnt (zfacts (zup s (6 + 512 * t + k) 0) t) 512)) := zX12_factsOf K (by omega) hm' hW'.2.2.1 (show t < 5 by omega)
          rw [efo', Option.bind_some, efc, Option.bind_some]
          rfl
    · refine ⟨.inl 1, (0, 2), fa, H, im, ff, now, before, ch, row, comes, layer, rounds, value, ?_, ?_, Or.inl ⟨1, by decide, rfl, rfl⟩, h0⟩
      · unfold zaph fX11_removeFact
        rw [e1, Option.bind_some]
        show ((fX11_needRow wd (nI t) p2 p3 p4).bind _) = _
        rw [e3]; rfl
      · unfold fX12_removeFact fX12_fails
        rw [e2, Option.bind_some, if_neg (show ¬ bI true = 0 by decide), e4, Option.bind_some, if_pos (show bI false = 0 from rfl)]; rfl
  · refine ⟨.inl 0, (0, 1), fa, H, im, ff, now, before, ch, row, comes, layer, rounds, value, ?_, ?_, Or.inl ⟨0, by decide, rfl, rfl⟩, h0⟩
    · unfold zaph fX11_removeFact
      rw [e1]; rfl
    · unfold fX12_removeFact fX12_fails
      rw [e2, Option.bind_some, if_pos (show bI false = 0 from rfl)]; rfl
