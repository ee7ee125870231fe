/-! clearIdle -/
theorem zI_clearIdle (K : Nat) (hK : 1000000 < K) {wd : Nat → Int32} {fa : Nat → Int64} {od hd : Nat → Int32} {qc : Nat → Nat → Int32} {qs : Nat → Int32} {bc : Nat → Nat → Int32} {bs : Nat → Int32} {tt rt : Int32} {H : zH12} {w : Nat → Int64} {g re fi : Nat → Int32} {ro im : Int32} {r : zR15} {ff : Int32} {now before : Nat → Int32} {ch : Int32} {row layer : Nat → Int32} {rounds : Int32} {value : Nat → Int32} (h : zIv wd fa od hd qc qs bc bs tt rt H w g re fi ro im r ff now before ch row layer rounds value) (q : zR13) (fr : Nat → Int64) (pk : Int32) (md : Nat → Int64) (comes place made : Nat → Int32) (places : Int32) (p p2 th : Int32) :
    ∃ e b fa' H' q' w' fr' g' re' fi' ro' im' r' pk' md' ff' now' before' ch' row' comes' layer' rounds' value' place' places' made', zapr (zapg (zaph (fX11_clearIdle K wd od hd qc qs bc bs tt rt p p2 fa) H) q w fr g re fi ro im) r pk md ff = some (e, fa', zgh H' (zgr q' w' fr' g' re' fi' ro' im' (zpf r' (pk', md', ff')))) ∧ fX12_clearIdle K p p2 now before ch th row comes layer rounds value place places made = some (b.1, now', before', ch', b.2, row', comes', layer', rounds', value', place', places', made') ∧ zAg [0] 0 e b ∧ zIv wd fa' od hd qc qs bc bs tt rt H' w' g' re' fi' ro' im' r' ff' now' before' ch' row' layer' rounds' value' := by
  have h0 := h
  obtain ⟨s, M, hW, hM, hM4, hS, hH, hg, hff, hm, hrow, hl, hro, hval⟩ := h
  have hs5 := hW.1
  have hfa := hS.2.2.1
  have hq5 := hS.2.2.2.2.1
  rcases zC_query p with ⟨k, hk, rfl, e1, e2⟩ | ⟨e1, e2⟩
  · rcases zC_atom (now := now) hW (fun q hq => (hq5 q hq).1) hk p2 with ⟨i, hi, rfl, e3, e4⟩ | ⟨e3, e4⟩
    · obtain ⟨q', w', fr', g', re', fi', rt', r', er, el, hga, hfo, hrow', hfd, hz⟩ := zSee K hK hW hM hM4 hS.2.1 hfa hS.2.2.2.2.2 q w fr g re fi ro im hg hm hrow hl hro hval hS.2.2.2.1 hq5 r ff hff hk
      obtain ⟨h1, h2, h3⟩ := hW.2.2.2.2.2.1 k hk
      obtain ⟨v', p', ps', made', ef, hv', hmade⟩ := zX12_findsMade K (by omega) hm hrow' hk h1 h2 hi hval place places made
      have hai := h1.2 i hi
      have htab : (zqa s k i).1 < 5 := hai.1
      obtain ⟨pk', md', em, hmd⟩ := zX11_markMade K (by omega) hfd hai pk md
      obtain ⟨H', before', ch', ek1, ek2, hH'⟩ := zKeepU K (by omega) hW hS hH hm (nI k)
      obtain ⟨fa', eko, hko⟩ := zX7_keepOnly K (by omega) htab md' fa
      obtain ⟨hW', hR, hQ, hT⟩ := zcli_WF hW htab (zmade (zw w') s k (zqa s k i) 4096)
      have hf' : zeqR (zw fa') (zfacts (zcli s (zqa s k i).1 (zmade (zw w') s k (zqa s k i) 4096) 512)) := by
        intro t j ht hj
        rw [hko t j ht hj, zcli_facts hW.2.2.1 htab _ t j ht hj, hfa t j ht hj]
        by_cases gt : t = (zqa s k i).1
        · rw [hmd t j ht hj, decide_eq_true gt, Bool.true_and]
        · rw [decide_eq_false gt, Bool.not_false, Bool.true_or, Bool.true_or]
      have hS' := zSR_facts hS (show zcli s (zqa s k i).1 (zmade (zw w') s k (zqa s k i) 4096) 512 0 = s 0 by unfold zcli; rw [if_neg (by omega)]) hR hQ hT hf'
      obtain ⟨now', hm', e61⟩ := zX12_clearIdle61 K hK hm hW htab hmade (nI k) (nI i) before' ch' row comes layer rounds v' p' ps'
      obtain ⟨M', row', comes', layer', rounds', value', a1, a2, efo, a3, a4, a5, a6⟩ := zFol K hK hm' hW' row comes layer rounds hv'
      have htwo := zcnt_pm (zfacts s (zqa s k i).1) (zmade (zw w') s k (zqa s k i) 4096) 512
      have hc' : zcnt (zw fa' (zqa s k i).1) 512 = zcnt (fun j => zfacts s (zqa s k i).1 j && zmade (zw w') s k (zqa s k i) 4096 j) 512 := zcnt_cong (fun j hj => by
        rw [hf' _ j htab hj, zcli_facts hW.2.2.1 htab _ _ j htab hj, decide_eq_true rfl, Bool.not_true, Bool.false_or])
      have hnow : now (zqp k i) = nI (zqa s k i).1 := (hm (zqp k i) (by unfold zqp; have := h1.1; omega)).1
      have hb : zqp k i < 2780 := by unfold zqp; have := h1.1; omega
      refine ⟨.inr (nI (zcnt (fun j => zfacts s (zqa s k i).1 j && !zmade (zw w') s k (zqa s k i) 4096 j) 512)), (_, 0), fa', H', q', w', fr', g', re', fi', rt', 0, r', pk', md', -1, now', before', ch', row', comes', layer', rounds', value', p', ps', made', ?_, ?_, Or.inr ⟨_, rfl, rfl⟩, ⟨_, M', hW', a1, a2, hS', hH', Or.inl rfl, Or.inl rfl, hm', a3, a4, a5, a6⟩⟩
      · unfold zapr zapg zaph fX11_clearIdle
        rw [e1, Option.bind_some]
        show ((fX11_needAtom qs (nI k) (nI i)).bind _) = _
        rw [e3, Option.bind_some]
        show ((zap (fX4_refresh K fa hd bc bs rt) q w fr g re fi ro im).bind _) = _
        rw [er, Option.bind_some]
        show ((zapr (fX11_look K od qc qs w' (nI k)) r ff).bind _) = _
        rw [el, Option.bind_some, zX9_query hk, Option.bind_some, if_pos hk, zX2_at (hq5 k hk).2 hi, Option.bind_some]
        show ((fX11_markMade K r'.2.2.1 r'.2.2.2.2.2.2.2.2.1 r'.2.2.2.2.2.2.2.2.2.2.2.2.2.1 r'.2.2.2.2.2.2.2.2.2.2.2.2.2.2 (nI (zaC (zqa s k i) false)) pk md).bind _) = _
        rw [em, Option.bind_some]
        show ((zaph (fX11_keepForUndo K wd fa od hd qc qs bc bs tt rt) H (nI k)).bind _) = _
        rw [ek1, Option.bind_some]
        unfold fX4_forget
        rw [Option.bind_some, zX1_table hai false, Option.bind_some, zX7_size K (by omega) fa htab, Option.bind_some]
        show ((fX7_keepOnly K (nI (zqa s k i).1) md' fa).bind _) = _
        rw [eko, Option.bind_some, zX7_size K (by omega) fa' htab, Option.bind_some, zin_tab htab hfa, hc', zi_sub (by omega)]
        have : zcnt (zfacts s (zqa s k i).1) 512 - zcnt (fun j => zfacts s (zqa s k i).1 j && zmade (zw w') s k (zqa s k i) 4096 j) 512 = zcnt (fun j => zfacts s (zqa s k i).1 j && !zmade (zw w') s k (zqa s k i) 4096 j) 512 := by omega
        rw [this]
        rfl
      · unfold fX12_clearIdle
        rw [e2, Option.bind_some, if_neg (show ¬ bI true = 0 by decide), zX12_atoms hm hk, Option.bind_some, e4, Option.bind_some, if_neg (show ¬ bI true = 0 by decide), ek2, Option.bind_some, ef, Option.bind_some, zX12_atomAt, Option.bind_some, if_pos (show inB (nI (zqp k i)) 2780 = true by rw [zi_inB (by omega)]; exact hb), zi_clamp (by omega), hnow]
        refine e61.trans ?_
        rw [efo, Option.bind_some]
    · refine ⟨.inl 0, (0, 1), fa, H, q, w, fr, g, re, fi, ro, im, r, pk, md, ff, now, before, ch, row, comes, layer, rounds, value, place, places, made, ?_, ?_, Or.inl ⟨0, by decide, rfl, rfl⟩, h0⟩
      · unfold zapr zapg zaph fX11_clearIdle
        rw [e1, Option.bind_some]
        show ((fX11_needAtom qs (nI k) p2).bind _) = _
        rw [e3]; rfl
      · unfold fX12_clearIdle fX12_clearIdle_27 fX12_fails
        rw [e2, Option.bind_some, if_neg (show ¬ bI true = 0 by decide), zX12_atoms hm hk, Option.bind_some, e4, Option.bind_some, if_pos (show bI false = 0 from rfl)]; rfl
  · refine ⟨.inl 0, (0, 1), fa, H, q, w, fr, g, re, fi, ro, im, r, pk, md, ff, now, before, ch, row, comes, layer, rounds, value, place, places, made, ?_, ?_, Or.inl ⟨0, by decide, rfl, rfl⟩, h0⟩
    · unfold zapr zapg zaph fX11_clearIdle
      rw [e1]; rfl
    · unfold fX12_clearIdle fX12_clearIdle_27 fX12_fails
      rw [e2, Option.bind_some, if_pos (show bI false = 0 from rfl)]; rfl
