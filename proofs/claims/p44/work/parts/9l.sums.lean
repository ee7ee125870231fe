/-! covers, trees, idle rows, errors, the checksum -/
theorem zd_cover (K : Nat) (hK : 1000000 < K) {O : zObj} {s : Nat → Nat} {L : List (Nat → Nat)} (h : zIc O s L) {k : Nat} (hk : k < 4) : ∃ O', hX11_cover K O (nI k) = some (nI (zlH (zqa s k) (zqn s k) (3 ^ zqn s k)), O') ∧ zIc O' s L := by
  obtain ⟨wd, fa, od, hd, qc, qs, bc, bs, tt, rt, H, q, w, fr, tr, g, re, fi, ro, im, r, pk, cz, lh, lp, se, md, ff⟩ := O
  have h0 := h
  obtain ⟨hW, hB, hS, hH, hg, hff⟩ := h
  have hS : zSR wd fa od hd qc qs bc bs tt rt s := hS
  obtain ⟨q', w', fr', g', re', fi', rt', er, hn, hw'⟩ := zRefresh K hK hW (zMs_ok hW).1 (zMs_ok hW).2 hS.2.2.1 hS.2.2.2.2.2 q w fr g re fi ro im hg
  have hga : zGa s (zMs s) w g re fi ro im w' g' re' fi' rt' 1 := Or.inr ⟨rfl, hn, hw'⟩
  obtain ⟨h1, h2, h3⟩ := hW.2.2.2.2.2.1 k hk
  have hq5 := hS.2.2.2.2.1
  obtain ⟨sz', ew⟩ := zX3_weighAll K (by omega) (hq5 k hk).2 hn.1 (R := zRw s) (by
    intro i hi j hj g
    have := zGn_in hW hn.1 hk i hi j hj
    rw [hn.1 _ j (h1.2 i hi).1 hj] at this
    exact this g) cz lh lp
  have ec : zapg (fX11_cover K fa hd qc qs bc bs rt (nI k)) q w fr g re fi ro im cz lh lp = some (Sum.inr (nI (zlH (zqa s k) (zqn s k) (3 ^ zqn s k))), zgr q' w' fr' g' re' fi' rt' 1 (sz', nI (zlH (zqa s k) (zqn s k) (3 ^ zqn s k)), lN (zlP (zqa s k) (fun i => zsz (zRw s) (zqa s k i)) (zqn s k) (3 ^ zqn s k)))) := by
    unfold zapg fX11_cover
    rw [zd_que hk, Option.bind_some]
    show ((zap (fX4_refresh K fa hd bc bs rt) q w fr g re fi ro im).bind _) = _
    rw [er, Option.bind_some, zX9_query hk, Option.bind_some, if_pos hk, (hq5 k hk).1]
    show ((fX3_weighAll K (qc k) (nI (zqn s k)) w' cz lh lp).bind fun q35 => some ((Sum.inr q35.2.1 : Nat ⊕ Int32), zgr q' w' fr' g' re' fi' rt' 1 (q35.1, q35.2.1, q35.2.2))) = _
    rw [ew, Option.bind_some]
  refine ⟨(wd, fa, od, hd, qc, qs, bc, bs, tt, rt, H, q', w', fr', tr, g', re', fi', rt', 1, r, pk, sz', nI (zlH (zqa s k) (zqn s k) (3 ^ zqn s k)), lN (zlP (zqa s k) (fun i => zsz (zRw s) (zqa s k i)) (zqn s k) (3 ^ zqn s k)), se, md, ff), ?_, zIk_ga h0 hga (zFo_ga hga hff)⟩
  unfold hX11_cover
  show ((zapg (fX11_cover K fa hd qc qs bc bs rt (nI k)) q w fr g re fi ro im cz lh lp).bind _) = _
  rw [ec, Option.bind_some]
  rfl
theorem zd_bound (K : Nat) (hK : 1000000 < K) {O : zObj} {s : Nat → Nat} {L : List (Nat → Nat)} (h : zIc O s L) {k : Nat} (hk : k < 4) : ∃ O', hX11_bound K O (nI k) = some (lN (zlP (zqa s k) (fun i => zsz (zRw s) (zqa s k i)) (zqn s k) (3 ^ zqn s k)), O') ∧ zIc O' s L := by
  obtain ⟨wd, fa, od, hd, qc, qs, bc, bs, tt, rt, H, q, w, fr, tr, g, re, fi, ro, im, r, pk, cz, lh, lp, se, md, ff⟩ := O
  have h0 := h
  obtain ⟨hW, hB, hS, hH, hg, hff⟩ := h
  have hS : zSR wd fa od hd qc qs bc bs tt rt s := hS
  obtain ⟨q', w', fr', g', re', fi', rt', er, hn, hw'⟩ := zRefresh K hK hW (zMs_ok hW).1 (zMs_ok hW).2 hS.2.2.1 hS.2.2.2.2.2 q w fr g re fi ro im hg
  have hga : zGa s (zMs s) w g re fi ro im w' g' re' fi' rt' 1 := Or.inr ⟨rfl, hn, hw'⟩
  obtain ⟨h1, h2, h3⟩ := hW.2.2.2.2.2.1 k hk
  have hq5 := hS.2.2.2.2.1
  obtain ⟨sz', ew⟩ := zX3_weighAll K (by omega) (hq5 k hk).2 hn.1 (R := zRw s) (by
    intro i hi j hj g
    have := zGn_in hW hn.1 hk i hi j hj
    rw [hn.1 _ j (h1.2 i hi).1 hj] at this
    exact this g) cz lh lp
  have ec : zapg (fX11_bound K fa hd qc qs bc bs rt (nI k)) q w fr g re fi ro im cz lh lp = some (Sum.inr (lN (zlP (zqa s k) (fun i => zsz (zRw s) (zqa s k i)) (zqn s k) (3 ^ zqn s k))), zgr q' w' fr' g' re' fi' rt' 1 (sz', nI (zlH (zqa s k) (zqn s k) (3 ^ zqn s k)), lN (zlP (zqa s k) (fun i => zsz (zRw s) (zqa s k i)) (zqn s k) (3 ^ zqn s k)))) := by
    unfold zapg fX11_bound
    rw [zd_que hk, Option.bind_some]
    show ((zap (fX4_refresh K fa hd bc bs rt) q w fr g re fi ro im).bind _) = _
    rw [er, Option.bind_some, zX9_query hk, Option.bind_some, if_pos hk, (hq5 k hk).1]
    show ((fX3_weighAll K (qc k) (nI (zqn s k)) w' cz lh lp).bind fun q35 => some ((Sum.inr q35.2.2 : Nat ⊕ Int64), zgr q' w' fr' g' re' fi' rt' 1 (q35.1, q35.2.1, q35.2.2))) = _
    rw [ew, Option.bind_some]
  refine ⟨(wd, fa, od, hd, qc, qs, bc, bs, tt, rt, H, q', w', fr', tr, g', re', fi', rt', 1, r, pk, sz', nI (zlH (zqa s k) (zqn s k) (3 ^ zqn s k)), lN (zlP (zqa s k) (fun i => zsz (zRw s) (zqa s k i)) (zqn s k) (3 ^ zqn s k)), se, md, ff), ?_, zIk_ga h0 hga (zFo_ga hga hff)⟩
  unfold hX11_bound
  show ((zapg (fX11_bound K fa hd qc qs bc bs rt (nI k)) q w fr g re fi ro im cz lh lp).bind _) = _
  rw [ec, Option.bind_some]
  rfl
theorem zd_isTree (K : Nat) (hK : 1000000 < K) {O : zObj} {s : Nat → Nat} {L : List (Nat → Nat)} (h : zIc O s L) {k : Nat} (hk : k < 4) : ∃ O' b, hX11_isTree K O (nI k) = some (b, O') ∧ (b = true ↔ zTree (zqa s k) (zqn s k)) ∧ zIc O' s L := by
  obtain ⟨wd, fa, od, hd, qc, qs, bc, bs, tt, rt, H, q, w, fr, tr, g, re, fi, ro, im, r, pk, cz, lh, lp, se, md, ff⟩ := O
  have h0 : zIk wd fa od hd qc qs bc bs tt rt H w g re fi ro im r ff s L := h
  obtain ⟨hW, hB, hS, hH, hg, hff⟩ := h
  have hS : zSR wd fa od hd qc qs bc bs tt rt s := hS
  obtain ⟨b1, b2⟩ := hS.2.2.2.2.1 k hk
  obtain ⟨x, sets', ex, hx⟩ := zX10_reduces K (by omega) b2 se
  have ec : fX11_isTree K qc qs (nI k) se = some (Sum.inr x, sets') := by
    unfold fX11_isTree
    rw [zd_que hk, Option.bind_some]
    show ((fX9_query (nI k)).bind fun q14 => if q14 < 4 then ((fX10_reduces K (qc q14) (qs q14) se).bind fun q17 => some (Sum.inr q17.1, (q17.2))) else none) = _
    rw [zX9_query hk, Option.bind_some, if_pos hk, b1, ex]; rfl
  refine ⟨(wd, fa, od, hd, qc, qs, bc, bs, tt, rt, H, q, w, fr, tr, g, re, fi, ro, im, r, pk, cz, lh, lp, sets', md, ff), x, ?_, hx, h0⟩
  unfold hX11_isTree
  show ((fX11_isTree K qc qs (nI k) se).bind _) = _
  rw [ec, Option.bind_some]
  rfl
theorem zd_atom {s : Nat → Nat} (hW : zWF s) {qs : Nat → Int32} (hqs : ∀ q, q < 4 → qs q = nI (zqn s q)) {q i : Nat} (hq : q < 4) (hi : i < zqn s q) : fX11_needAtom qs (nI q) (nI i) = some (.inr (), ()) := by
  have h5 := (hW.2.2.2.2.2.1 q hq).1.1
  unfold fX11_needAtom
  rw [if_neg (nI_pos (by omega)), zX9_query hq, Option.bind_some, if_pos hq, hqs q hq, if_pos (by rw [zi_lt (by omega) (by omega)]; exact hi)]
theorem zmade_R {R R' : Nat → Nat → Bool} {s : Nat → Nat} {q : Nat} (h : zqP R s q = zqP R' s q) (a : zA) (n : Nat) : zmade R s q a n = zmade R' s q a n := by
  funext k
  unfold zmade
  rw [h]
theorem zd_idleRows (K : Nat) (hK : 1000000 < K) {O : zObj} {s : Nat → Nat} {L : List (Nat → Nat)} (h : zIc O s L) {k i : Nat} (hk : k < 4) (hi : i < zqn s k) : ∃ O', hX11_idleRows K O (nI k) (nI i) = some (nI (zcnt (fun j => zRw s (zqa s k i).1 j && !zmade (zRw s) s k (zqa s k i) 4096 j) 512), O') ∧ zIc O' s L := by
  obtain ⟨wd, fa, od, hd, qc, qs, bc, bs, tt, rt, H, q, w, fr, tr, g, re, fi, ro, im, r, pk, cz, lh, lp, se, md, ff⟩ := O
  obtain ⟨q', w', fr', g', re', fi', rt', r', er, el, hI, hfd, hqp, hz⟩ := zd_see K hK h q fr hk
  obtain ⟨hW, hB, hS, hH, hg, hff⟩ := h
  have hS : zSR wd fa od hd qc qs bc bs tt rt s := hS
  have hq5 := hS.2.2.2.2.1
  obtain ⟨h1, h2, h3⟩ := hW.2.2.2.2.2.1 k hk
  have hai := h1.2 i hi
  have htab : (zqa s k i).1 < 5 := hai.1
  obtain ⟨pk', md', em, hmd⟩ := zX11_markMade K (by omega) hfd hai pk md
  have hcm : zcnt (zw md' (zqa s k i).1) 512 = zcnt (zmade (zw w') s k (zqa s k i) 4096) 512 := zcnt_cong (fun j hj => by rw [hmd _ j htab hj, decide_eq_true rfl, Bool.true_and])
  have hdiff := zcnt_diff (p := zw w' (zqa s k i).1) (m := zmade (zw w') s k (zqa s k i) 4096) 512 (by
    intro j hj hmj
    unfold zmade at hmj
    obtain ⟨y, y1, y2⟩ := zany_iff.1 hmj
    simp only [Bool.and_eq_true, decide_eq_true_eq] at y2
    rw [← y2.2]
    exact zqP_row h1 h2 hi y2.1)
  have cls : ∀ {pp : Int32} {x : (Nat ⊕ Unit) × Unit}, fX11_needAtom qs (nI k) pp = some x → ∀ f1 f2, ((fX11_needAtom qs (nI k) pp).bind fun q8 => q8.1.elim f1 f2 : Option ((Nat ⊕ Int32) × zR20m)) = x.1.elim f1 f2 := by
    intro pp x hx f1 f2
    rw [hx]; rfl
  have e3 := zd_atom hW (fun q hq => (hq5 q hq).1) hk hi
  have hfin : zcnt (fun j => zw w' (zqa s k i).1 j && !zmade (zw w') s k (zqa s k i) 4096 j) 512 = zcnt (fun j => zRw s (zqa s k i).1 j && !zmade (zRw s) s k (zqa s k i) 4096 j) 512 := by
    rw [zmade_R hqp]
    exact zcnt_cong (fun j hj => by rw [hz _ j htab hj])
  have ec : zapr (zapg (fX11_idleRows K fa od hd qc qs bc bs rt (nI k) (nI i)) q w fr g re fi ro im) r pk md ff = some (Sum.inr (nI (zcnt (fun j => zRw s (zqa s k i).1 j && !zmade (zRw s) s k (zqa s k i) 4096 j) 512)), zgr q' w' fr' g' re' fi' rt' 1 (zpf r' (pk', md', nI k))) := by
    unfold zapr zapg fX11_idleRows
    rw [zd_que hk, Option.bind_some]
    refine (cls e3 _ _).trans ?_
    show ((zap (fX4_refresh K fa hd bc bs rt) q w fr g re fi ro im).bind _) = _
    rw [er, Option.bind_some]
    show ((zapr (fX11_look K od qc qs w' (nI k)) r ff).bind _) = _
    rw [el, Option.bind_some, zX9_query hk, Option.bind_some, if_pos hk, zX2_at (hq5 k hk).2 hi, Option.bind_some]
    show ((fX11_markMade K r'.2.2.1 r'.2.2.2.2.2.2.2.2.1 r'.2.2.2.2.2.2.2.2.2.2.2.2.2.1 r'.2.2.2.2.2.2.2.2.2.2.2.2.2.2 (nI (zaC (zqa s k i) false)) pk md).bind fun q42 => (fX1_table (nI (zaC (zqa s k i) false))).bind fun q46 => (fX7_size K w' q46).bind fun q60 => (fX7_size K q42.2 q46).bind fun q69 => some ((Sum.inr (q60 - q69) : Nat ⊕ Int32), zgr q' w' fr' g' re' fi' rt' 1 (zpf r' (q42.1, q42.2, nI k)))) = _
    rw [em, Option.bind_some, zX1_table hai false, Option.bind_some, zX7_size K (by omega) w' htab, Option.bind_some, zX7_size K (by omega) md' htab, Option.bind_some, hcm, zi_sub (by omega)]
    have : zcnt (zw w' (zqa s k i).1) 512 - zcnt (zmade (zw w') s k (zqa s k i) 4096) 512 = zcnt (fun j => zw w' (zqa s k i).1 j && !zmade (zw w') s k (zqa s k i) 4096 j) 512 := by omega
    rw [this, hfin]
  refine ⟨(wd, fa, od, hd, qc, qs, bc, bs, tt, rt, H, q', w', fr', tr, g', re', fi', rt', 1, r', pk', cz, lh, lp, se, md', nI k), ?_, hI⟩
  unfold hX11_idleRows
  show ((zapr (zapg (fX11_idleRows K fa od hd qc qs bc bs rt (nI k) (nI i)) q w fr g re fi ro im) r pk md ff).bind _) = _
  rw [ec, Option.bind_some]
  rfl
theorem zd_clearIdle (K : Nat) (hK : 1000000 < K) {O : zObj} {s : Nat → Nat} {L : List (Nat → Nat)} (h : zIc O s L) {k i : Nat} (hk : k < 4) (hi : i < zqn s k) : ∃ O' m, (∀ j, m j = zmade (zRw s) s k (zqa s k i) 4096 j) ∧ hX11_clearIdle K O (nI k) (nI i) = some (nI (zcnt (fun j => zfacts s (zqa s k i).1 j && !m j) 512), O') ∧ zIc O' (zcli s (zqa s k i).1 m 512) (s :: L.take 9) := by
  obtain ⟨wd, fa, od, hd, qc, qs, bc, bs, tt, rt, H, q, w, fr, tr, g, re, fi, ro, im, r, pk, cz, lh, lp, se, md, ff⟩ := O
  obtain ⟨q', w', fr', g', re', fi', rt', r', er, el, hI, hfd, hqp, hz⟩ := zd_see K hK h q fr hk
  obtain ⟨hW, hB, hS, hH, hg, hff⟩ := h
  have hS : zSR wd fa od hd qc qs bc bs tt rt s := hS
  have hfa := hS.2.2.1
  have hq5 := hS.2.2.2.2.1
  obtain ⟨h1, h2, h3⟩ := hW.2.2.2.2.2.1 k hk
  have hai := h1.2 i hi
  have htab : (zqa s k i).1 < 5 := hai.1
  obtain ⟨pk', md', em, hmd⟩ := zX11_markMade K (by omega) hfd hai pk md
  obtain ⟨H', ek1, hH'⟩ := zHl_keep K (by omega) hW hB hS hH (nI k)
  obtain ⟨fa', eko, hko⟩ := zX7_keepOnly K (by omega) htab md' fa
  obtain ⟨hW', hR, hQ, hT⟩ := zcli_WF hW htab (zmade (zw w') s k (zqa s k i) 4096)
  have hf' : zeqR (zw fa') (zfacts (zcli s (zqa s k i).1 (zmade (zw w') s k (zqa s k i) 4096) 512)) := by
    intro t j ht hj
    rw [hko t j ht hj, zcli_facts hW.2.2.1 htab _ t j ht hj, hfa t j ht hj]
    by_cases gt : t = (zqa s k i).1
    · rw [hmd t j ht hj, decide_eq_true gt, Bool.true_and]
    · rw [decide_eq_false gt, Bool.not_false, Bool.true_or, Bool.true_or]
  have hS' := zSR_facts hS (show zcli s (zqa s k i).1 (zmade (zw w') s k (zqa s k i) 4096) 512 0 = s 0 by unfold zcli; rw [if_neg (by omega)]) hR hQ hT hf'
  have htwo := zcnt_pm (zfacts s (zqa s k i).1) (zmade (zw w') s k (zqa s k i) 4096) 512
  have hc' : zcnt (zw fa' (zqa s k i).1) 512 = zcnt (fun j => zfacts s (zqa s k i).1 j && zmade (zw w') s k (zqa s k i) 4096 j) 512 := zcnt_cong (fun j hj => by
    rw [hf' _ j htab hj, zcli_facts hW.2.2.1 htab _ _ j htab hj, decide_eq_true rfl, Bool.not_true, Bool.false_or])
  have hB' : zBd (zcli s (zqa s k i).1 (zmade (zw w') s k (zqa s k i) 4096) 512) := by
    intro j hj
    unfold zcli
    split
    · omega
    · exact hB j hj
  have ec : zapr (zapg (zaph (fX11_clearIdle K wd od hd qc qs bc bs tt rt (nI k) (nI i) fa) H) q w fr g re fi ro im) r pk md ff = some (Sum.inr (nI (zcnt (fun j => zfacts s (zqa s k i).1 j && !zmade (zw w') s k (zqa s k i) 4096 j) 512)), fa', zgh H' (zgr q' w' fr' g' re' fi' rt' 0 (zpf r' (pk', md', -1)))) := by
    unfold zapr zapg zaph fX11_clearIdle
    rw [zd_que hk, Option.bind_some]
    show ((fX11_needAtom qs (nI k) (nI i)).bind _) = _
    rw [zd_atom hW (fun q hq => (hq5 q hq).1) hk hi, Option.bind_some]
    show ((zap (fX4_refresh K fa hd bc bs rt) q w fr g re fi ro im).bind _) = _
    rw [er, Option.bind_some]
    show ((zapr (fX11_look K od qc qs w' (nI k)) r ff).bind _) = _
    rw [el, Option.bind_some, zX9_query hk, Option.bind_some, if_pos hk, zX2_at (hq5 k hk).2 hi, Option.bind_some]
    show ((fX11_markMade K r'.2.2.1 r'.2.2.2.2.2.2.2.2.1 r'.2.2.2.2.2.2.2.2.2.2.2.2.2.1 r'.2.2.2.2.2.2.2.2.2.2.2.2.2.2 (nI (zaC (zqa s k i) false)) pk md).bind _) = _
    rw [em, Option.bind_some]
    show ((zaph (fX11_keepForUndo K wd fa od hd qc qs bc bs tt rt) H (nI k)).bind _) = _
    rw [ek1, Option.bind_some]
    unfold fX4_forget
    rw [Option.bind_some, zX1_table hai false, Option.bind_some, zX7_size K (by omega) fa htab, Option.bind_some]
    show ((fX7_keepOnly K (nI (zqa s k i).1) md' fa).bind _) = _
    rw [eko, Option.bind_some, zX7_size K (by omega) fa' htab, Option.bind_some, zin_tab htab hfa, hc', zi_sub (by omega)]
    have : zcnt (zfacts s (zqa s k i).1) 512 - zcnt (fun j => zfacts s (zqa s k i).1 j && zmade (zw w') s k (zqa s k i) 4096 j) 512 = zcnt (fun j => zfacts s (zqa s k i).1 j && !zmade (zw w') s k (zqa s k i) 4096 j) 512 := by omega
    rw [this]
    rfl
  refine ⟨(wd, fa', od, hd, qc, qs, bc, bs, tt, rt, H', q', w', fr', tr, g', re', fi', rt', 0, r', pk', cz, lh, lp, se, md', -1), zmade (zw w') s k (zqa s k i) 4096, fun j => by rw [zmade_R hqp], ?_, hW', hB', hS', hH', Or.inl rfl, Or.inl rfl⟩
  unfold hX11_clearIdle
  show ((zapr (zapg (zaph (fX11_clearIdle K wd od hd qc qs bc bs tt rt (nI k) (nI i) fa) H) q w fr g re fi ro im) r pk md ff).bind _) = _
  rw [ec, Option.bind_some]
  rfl
/-- the checksum of a told state -/
noncomputable def zSum (s : Nat → Nat) : Int32 := zcq (fun q => zcnt (zqP (zRw s) s q) 4096) 4 (zca (zRw s) s (s 0) 17)
theorem zd_checksum (K : Nat) (hK : 1000000 < K) {O : zObj} {s : Nat → Nat} {L : List (Nat → Nat)} (h : zIc O s L) : ∃ O', hX11_checksum K O = some (zSum s, O') ∧ zIc O' s L := by
  obtain ⟨wd, fa, od, hd, qc, qs, bc, bs, tt, rt, H, q, w, fr, tr, g, re, fi, ro, im, r, pk, cz, lh, lp, se, md, ff⟩ := O
  have h0 := h
  obtain ⟨hW, hB, hS, hH, hg, hff⟩ := h
  have hS : zSR wd fa od hd qc qs bc bs tt rt s := hS
  have htt : tt = nI (s 0) := hS.1
  subst htt
  obtain ⟨v, q', w', fr', g', re', fi', rt', r', ff', value', place', places', ec, em, hv', hga, hfo⟩ := zc_checksum K hK hW (zMs_ok hW).1 (zMs_ok hW).2 hS.2.1 hS.2.2.1 hS.2.2.2.2.2 q w fr g re fi ro im hg (zgN_ok hB) (zgR_ok _) (layer := fun t => nI (zMs s t)) (fun t _ => rfl) rfl zgV_ok hS.2.2.2.1 hS.2.2.2.2.1 r ff hff 0 (fun _ => 0) 0
  obtain ⟨v2, p2, ps2, em2, _⟩ := zX12_checksum K (by omega) (zgN_ok hB) hW (zgR_ok (zRw s)) 0 zgV_ok (fun _ => 0) 0
  have hv : v = zSum s := by
    have e : some (v, (0 : Int32), value', place', places') = some (zSum s, (0 : Int32), v2, p2, ps2) := em.symm.trans em2
    exact congrArg (fun x => x.1) (Option.some.inj e)
  refine ⟨(wd, fa, od, hd, qc, qs, bc, bs, nI (s 0), rt, H, q', w', fr', tr, g', re', fi', rt', 1, r', pk, cz, lh, lp, se, md, ff'), ?_, zIk_ga h0 hga hfo⟩
  unfold hX11_checksum
  show ((zapr (zapg (fX11_checksum K wd fa od hd qc qs bc bs (nI (s 0)) rt) q w fr g re fi ro im) r ff).bind _) = _
  rw [ec, Option.bind_some, hv]
  rfl
theorem zd_errors (K : Nat) (hK : 1000000 < K) {O : zObj} {s : Nat → Nat} {L : List (Nat → Nat)} (h : zIc O s L) : ∃ O', hX11_errors K O = some (nI (zsum (fun t => zwo (zRw s) s t 512) (s 0)), O') ∧ zIc O' s L := by
  obtain ⟨wd, fa, od, hd, qc, qs, bc, bs, tt, rt, H, q, w, fr, tr, g, re, fi, ro, im, r, pk, cz, lh, lp, se, md, ff⟩ := O
  have h0 := h
  obtain ⟨hW, hB, hS, hH, hg, hff⟩ := h
  have hS : zSR wd fa od hd qc qs bc bs tt rt s := hS
  have htt : tt = nI (s 0) := hS.1
  subst htt
  obtain ⟨v, q', w', fr', g', re', fi', rt', r', ff', value', ec, em, hv', hga, hfo⟩ := zc_errors K hK hW (zMs_ok hW).1 (zMs_ok hW).2 hS.2.1 hS.2.2.1 hS.2.2.2.2.2 q w fr g re fi ro im hg (zgN_ok hB) (zgR_ok _) (layer := fun t => nI (zMs s t)) (fun t _ => rfl) rfl zgV_ok hS.2.2.2.1 hS.2.2.2.2.1 r ff hff 0
  obtain ⟨v2, em2, _⟩ := zX12_errors K (by omega) (zgN_ok hB) hW.2.2.2.2.2.2.1 hW.1 (zgR_ok (zRw s)) 0 zgV_ok
  have hv : v = nI (zsum (fun t => zwo (zRw s) s t 512) (s 0)) := by
    have e : some (v, (0 : Int32), value') = some (nI (zsum (fun t => zwo (zRw s) s t 512) (s 0)), (0 : Int32), v2) := em.symm.trans em2
    exact congrArg (fun x => x.1) (Option.some.inj e)
  refine ⟨(wd, fa, od, hd, qc, qs, bc, bs, nI (s 0), rt, H, q', w', fr', tr, g', re', fi', rt', 1, r', pk, cz, lh, lp, se, md, ff'), ?_, zIk_ga h0 hga hfo⟩
  unfold hX11_errors
  show ((zapr (zapg (fX11_errors K fa od hd qc qs bc bs (nI (s 0)) rt) q w fr g re fi ro im) r ff).bind _) = _
  rw [ec, Option.bind_some, hv]
  rfl
