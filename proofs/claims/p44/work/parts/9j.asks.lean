/-! an atom more in a rule; the calls that look at rows -/
theorem zBd_rat {s : Nat → Nat} (hB : zBd s) {u t x y z v : Nat} (ht : t < 5) (hx : x < 4) (hy : y < 4) (hz : z < 4) (hv : v ≤ 1) (hn : zbn s u < 4) : zBd (zrat s u t x y z v) := zBd_up (zBd_up (zBd_lay hB (by omega) (by omega) (by omega) (by omega)) (by omega)) (by omega)

theorem zd_addRuleAtom (K : Nat) (hK : 1000000 < K) {O : zObj} {s : Nat → Nat} {L : List (Nat → Nat)} (h : zIc O s L) {u t x y z : Nat} (b : Bool) (hu : u < zrn s) (hn : zbn s u < 4) (ht : t < s 0) (hv : zvl 4 (s (1 + t)) x y z) :
    ∃ can O', (can = true ↔ ∃ S, zStb (zE (zrat s u t x y z b.toNat)) S) ∧ hY11_addRuleAtom K O (nI u) (nI t) (nI x) (nI y) (nI z) (bI b) = some (if can = true then nI (zbn s u + 1) else -1, O') ∧ zIc O' (if can = true then zrat s u t x y z b.toNat else s) (if can = true then s :: L.take 9 else L) := by
  obtain ⟨wd, fa, od, hd, qc, qs, bc, bs, tt, rt, H, q, w, fr, tr, g, re, fi, ro, im, r, pk, cz, lh, lp, se, md, ff⟩ := O
  have h0 := h
  obtain ⟨hW, hB, hS, hH, hg, hff⟩ := h
  have hS : zSR wd fa od hd qc qs bc bs tt rt s := hS
  have htt : tt = nI (s 0) := hS.1
  subst htt
  have hrt : rt = nI (zrn s) := hS.2.2.2.2.2.1
  subst hrt
  have hs5 := hW.1
  have hwd := hS.2.1
  have hr5 := hW.2.2.2.2.2.2.1.1
  have e4 : (4 : Int32) = nI 4 := rfl
  obtain ⟨b0, b1, b2⟩ := hS.2.2.2.2.2.2 u hu
  obtain ⟨c1, c3⟩ := hW.2.1 t ht
  have e1 := zd_rul hu hr5
  have e3 := zd_tab ht hs5
  obtain ⟨e5, hx, hy, hz⟩ := zd_vars hW hwd ht hv
  have hok : zaOK (t, s (1 + t), x, y, z) := ⟨by show t < 5; omega, c1, c3, hx, hy, hz⟩
  have hv1 : b.toNat ≤ 1 := Bool.toNat_le b
  have c86 : zaph (fX11_addRuleAtom K wd fa od hd qc qs (nI (s 0)) (nI (zrn s)) (nI u) (nI t) (nI x) (nI y) (nI z) (bI b) bc bs) H tr im ff = zaph (fX11_addRuleAtom_86 K wd fa od hd qc qs (nI (s 0)) (nI (zrn s)) (nI u) (nI t) (nI x) (nI y) (nI z) (bI b) u (nI (zaC (t, s (1 + t), x, y, z) b)) bc bs) H tr im ff := by
    unfold zaph fX11_addRuleAtom
    rw [e1, Option.bind_some]
    show ((fX11_needTable (nI (s 0)) (nI t)).bind _) = _
    rw [e3, Option.bind_some]
    show ((fX11_needVariables wd (nI t) (nI x) (nI y) (nI z)).bind _) = _
    rw [e5, Option.bind_some]
    show ((fX9_body (nI u)).bind _) = _
    rw [zX9_body (show u < 5 by omega), Option.bind_some, if_pos (show u < 5 by omega), b1, if_pos (by rw [e4, zi_lt (by omega) (by omega)]; omega), zX6_at wd (show t < 5 by omega) (by omega), Option.bind_some, hwd t ht, zX1_code (by omega) c1 c3 hx hy hz, Option.bind_some]
    cases b
    · rw [if_pos (show bI false = 0 from rfl)]
    · rw [if_neg (show ¬ bI true = 0 by decide), zX1_withNot hok, Option.bind_some]
  have hEX : zEX s (fun r h' u' w' => r = u ∧ h' = (zrh s u).1 ∧ u' = t ∧ w' = b.toNat) = zE (zrat s u t x y z b.toNat) := by
    funext a u' w'
    have hE := zrat_E (x := x) (y := y) (z := z) (v := b.toNat) hW hu hn ht a u' w'
    have hd1 : (decide (b.toNat = 1)).toNat = b.toNat := by cases b <;> rfl
    rw [hd1] at hE
    apply propext
    rw [hE]
    constructor
    · rintro (h1 | ⟨r, hr, rfl, h2⟩)
      · exact Or.inl h1
      · exact Or.inr h2
    · rintro (h1 | h2)
      · exact Or.inl h1
      · exact Or.inr ⟨u, hu, rfl, h2⟩
  have hXr : zXr (nI u) (nI (zaC (t, s (1 + t), x, y, z) b)) s (fun r h' u' w' => r = u ∧ h' = (zrh s u).1 ∧ u' = t ∧ w' = b.toNat) := by
    intro r hr
    constructor
    · intro g
      have : r = u := (zi_eq (by omega) (by omega)).1 g
      subst this
      exact ⟨_, b, hok, rfl, fun h' u' w' => ⟨fun q => q.2, fun q => ⟨rfl, q⟩⟩⟩
    · intro g h' u' w' q
      exact g (by rw [q.1])
  obtain ⟨bb, tried', es, hbb, _⟩ := zX4_settle K (by omega) hW.2.2.2.2.2.2.1 hS.2.2.2.2.2 hXr tr
  rw [hEX] at hbb
  have estay : fX4_staysLayered K hd bc bs (nI (zrn s)) (nI u) (nI (zaC (t, s (1 + t), x, y, z) b)) tr = some (bb, tried') := by
    unfold fX4_staysLayered
    rw [es]; rfl
  cases bb
  · have ec : zaph (fX11_addRuleAtom K wd fa od hd qc qs (nI (s 0)) (nI (zrn s)) (nI u) (nI t) (nI x) (nI y) (nI z) (bI b) bc bs) H tr im ff = some (Sum.inl 2, bc, bs, zgh H (tried', im, ff)) := by
      rw [c86]
      unfold zaph fX11_addRuleAtom_86
      rw [estay, Option.bind_some, if_pos (show bI (false, tried').1 = 0 from rfl)]
      rfl
    refine ⟨false, (wd, fa, od, hd, qc, qs, bc, bs, nI (s 0), nI (zrn s), H, q, w, fr, tried', g, re, fi, ro, im, r, pk, cz, lh, lp, se, md, ff), hbb, ?_, h0⟩
    unfold hY11_addRuleAtom
    show ((zaph (fX11_addRuleAtom K wd fa od hd qc qs (nI (s 0)) (nI (zrn s)) (nI u) (nI t) (nI x) (nI y) (nI z) (bI b) bc bs) H tr im ff).bind _) = _
    rw [ec, Option.bind_some]
    rfl
  · have hyes : ∃ S, zStb (zE (zrat s u t x y z b.toNat)) S := hbb.1 rfl
    obtain ⟨H', ek1, hH'⟩ := zHl_keep K (by omega) hW hB hS hH ff
    obtain ⟨hW3, hS3⟩ := zWF_ratom (b := b) hW hS hu hn ht hx hy hz hyes
    have hadd := (zX2_add b2 (show zbn s u < 5 by omega) (b := b) hok).1
    have ec : zaph (fX11_addRuleAtom K wd fa od hd qc qs (nI (s 0)) (nI (zrn s)) (nI u) (nI t) (nI x) (nI y) (nI z) (bI b) bc bs) H tr im ff = some (Sum.inr (nI (zbn s u + 1)), zup bc u (upd (bc u) (zbn s u) (nI (zaC (t, s (1 + t), x, y, z) b))), zup bs u (nI (zbn s u + 1)), zgh H' (tried', 0, -1)) := by
      rw [c86]
      unfold zaph fX11_addRuleAtom_86
      rw [estay, Option.bind_some, if_neg (show ¬ bI (true, tried').1 = 0 from (by decide : ¬ bI true = 0))]
      show ((zaph (fX11_keepForUndo K wd fa od hd qc qs bc bs (nI (s 0)) (nI (zrn s))) H ff).bind _) = _
      rw [ek1, Option.bind_some]
      show (if u < 5 then ((fX2_add (nI (zaC (t, s (1 + t), x, y, z) b)) (bc u) (bs u)).bind fun q130 => some ((Sum.inr ((zup bs u q130.2) u) : Nat ⊕ Int32), (zup bc u q130.1, zup bs u q130.2, zgh H' (tried', (0 : Int32), (-1 : Int32))))) else none) = _
      rw [if_pos (show u < 5 by omega), b1, hadd, Option.bind_some]
      show some ((Sum.inr ((zup bs u (nI (zbn s u + 1))) u) : Nat ⊕ Int32), _) = _
      rw [zup_at]
    refine ⟨true, (wd, fa, od, hd, qc, qs, zup bc u (upd (bc u) (zbn s u) (nI (zaC (t, s (1 + t), x, y, z) b))), zup bs u (nI (zbn s u + 1)), nI (s 0), nI (zrn s), H', q, w, fr, tried', g, re, fi, ro, 0, r, pk, cz, lh, lp, se, md, -1), hbb, ?_, hW3, zBd_rat hB (by omega) hx hy hz hv1 hn, hS3, hH', Or.inl rfl, Or.inl rfl⟩
    unfold hY11_addRuleAtom
    show ((zaph (fX11_addRuleAtom K wd fa od hd qc qs (nI (s 0)) (nI (zrn s)) (nI u) (nI t) (nI x) (nI y) (nI z) (bI b) bc bs) H tr im ff).bind _) = _
    rw [ec, Option.bind_some]
    rfl
theorem zd_factCount (K : Nat) (hK : 1000000 < K) {O : zObj} {s : Nat → Nat} {L : List (Nat → Nat)} (h : zIc O s L) {t : Nat} (ht : t < s 0) : hX11_factCount K O (nI t) = some (nI (zcnt (zfacts s t) 512), O) := by
  obtain ⟨wd, fa, od, hd, qc, qs, bc, bs, tt, rt, H, q, w, fr, tr, g, re, fi, ro, im, r, pk, cz, lh, lp, se, md, ff⟩ := O
  obtain ⟨hW, hB, hS, hH, hg, hff⟩ := h
  have hS : zSR wd fa od hd qc qs bc bs tt rt s := hS
  have htt : tt = nI (s 0) := hS.1
  subst htt
  have hs5 := hW.1
  have ec : fX11_factCount K fa (nI (s 0)) (nI t) = some (Sum.inr (nI (zcnt (zfacts s t) 512)), ()) := by
    unfold fX11_factCount
    rw [zd_tab ht hs5, Option.bind_some]
    show ((fX7_size K fa (nI t)).bind fun q13 => some (Sum.inr q13, ())) = _
    rw [zX7_size K (by omega) fa (show t < 5 by omega), zin_tab (show t < 5 by omega) hS.2.2.1]; rfl
  unfold hX11_factCount
  show ((fX11_factCount K fa (nI (s 0)) (nI t)).bind _) = _
  rw [ec]
  rfl
theorem zd_isFact (K : Nat) (hK : 1000000 < K) {O : zObj} {s : Nat → Nat} {L : List (Nat → Nat)} (h : zIc O s L) {t x y z k : Nat} (ht : t < s 0) (hv : zvl 8 (s (1 + t)) x y z) (hk : k = 64 * x + 8 * y + z) : hX11_isFact K O (nI t) (nI x) (nI y) (nI z) = some (zfacts s t k, O) := by
  obtain ⟨wd, fa, od, hd, qc, qs, bc, bs, tt, rt, H, q, w, fr, tr, g, re, fi, ro, im, r, pk, cz, lh, lp, se, md, ff⟩ := O
  obtain ⟨hW, hB, hS, hH, hg, hff⟩ := h
  have hS : zSR wd fa od hd qc qs bc bs tt rt s := hS
  have htt : tt = nI (s 0) := hS.1
  subst htt
  have hs5 := hW.1
  obtain ⟨e3, e5, hk5, hz⟩ := zd_row hW hS.2.1 ht hv
  rw [← hk] at e5 hk5
  have ec : fX11_isFact wd fa (nI (s 0)) (nI t) (nI x) (nI y) (nI z) = some (Sum.inr (zfacts s t k), ()) := by
    unfold fX11_isFact
    rw [zd_tab ht hs5, Option.bind_some]
    show ((fX11_needRow wd (nI t) (nI x) (nI y) (nI z)).bind _) = _
    rw [e3, Option.bind_some]
    show ((fX11_rowOf (nI x) (nI y) (nI z)).bind fun q26 => (fX7_has fa (nI t) q26).bind fun q29 => some (Sum.inr q29, ())) = _
    rw [e5, Option.bind_some, zX7_has fa (show t < 5 by omega) hk5, Option.bind_some, hS.2.2.1 t k (by omega) hk5]
  unfold hX11_isFact
  show ((fX11_isFact wd fa (nI (s 0)) (nI t) (nI x) (nI y) (nI z)).bind _) = _
  rw [ec]
  rfl
/-- a look at the rows, as many calls begin -/
theorem zd_rowCount (K : Nat) (hK : 1000000 < K) {O : zObj} {s : Nat → Nat} {L : List (Nat → Nat)} (h : zIc O s L) {t : Nat} (ht : t < s 0) : ∃ O', hX11_rowCount K O (nI t) = some (nI (zcnt (zRw s t) 512), O') ∧ zIc O' s L := by
  obtain ⟨wd, fa, od, hd, qc, qs, bc, bs, tt, rt, H, q, w, fr, tr, g, re, fi, ro, im, r, pk, cz, lh, lp, se, md, ff⟩ := O
  have h0 := h
  obtain ⟨hW, hB, hS, hH, hg, hff⟩ := h
  have hS : zSR wd fa od hd qc qs bc bs tt rt s := hS
  have htt : tt = nI (s 0) := hS.1
  subst htt
  have hs5 := hW.1
  obtain ⟨q', w', fr', g', re', fi', rt', er, hn, hw'⟩ := zRefresh K hK hW (zMs_ok hW).1 (zMs_ok hW).2 hS.2.2.1 hS.2.2.2.2.2 q w fr g re fi ro im hg
  have hga : zGa s (zMs s) w g re fi ro im w' g' re' fi' rt' 1 := Or.inr ⟨rfl, hn, hw'⟩
  have ec : zapg (fX11_rowCount K fa hd bc bs (nI (s 0)) rt (nI t)) q w fr g re fi ro im = some (Sum.inr (nI (zcnt (zRw s t) 512)), zrs q' w' fr' g' re' fi' rt' 1) := by
    unfold zapg fX11_rowCount
    rw [zd_tab ht hs5, Option.bind_some]
    show ((zap (fX4_refresh K fa hd bc bs rt) q w fr g re fi ro im).bind _) = _
    rw [er, Option.bind_some]
    show ((fX7_size K w' (nI t)).bind fun q24 => some (Sum.inr q24, zrs q' w' fr' g' re' fi' rt' 1)) = _
    rw [zX7_size K (by omega) w' (show t < 5 by omega), zcnt_cong (fun k hk => hn.1 t k (by omega) hk)]; rfl
  refine ⟨(wd, fa, od, hd, qc, qs, bc, bs, nI (s 0), rt, H, q', w', fr', tr, g', re', fi', rt', 1, r, pk, cz, lh, lp, se, md, ff), ?_, zIk_ga h0 hga (zFo_ga hga hff)⟩
  unfold hX11_rowCount
  show ((zapg (fX11_rowCount K fa hd bc bs (nI (s 0)) rt (nI t)) q w fr g re fi ro im).bind _) = _
  rw [ec, Option.bind_some]
  rfl
theorem zd_layerOf (K : Nat) (hK : 1000000 < K) {O : zObj} {s : Nat → Nat} {L : List (Nat → Nat)} (h : zIc O s L) {t : Nat} (ht : t < s 0) : ∃ O', hX11_layerOf K O (nI t) = some (nI (zMs s t), O') ∧ zIc O' s L := by
  obtain ⟨wd, fa, od, hd, qc, qs, bc, bs, tt, rt, H, q, w, fr, tr, g, re, fi, ro, im, r, pk, cz, lh, lp, se, md, ff⟩ := O
  have h0 := h
  obtain ⟨hW, hB, hS, hH, hg, hff⟩ := h
  have hS : zSR wd fa od hd qc qs bc bs tt rt s := hS
  have htt : tt = nI (s 0) := hS.1
  subst htt
  have hs5 := hW.1
  obtain ⟨q', w', fr', g', re', fi', rt', er, hn, hw'⟩ := zRefresh K hK hW (zMs_ok hW).1 (zMs_ok hW).2 hS.2.2.1 hS.2.2.2.2.2 q w fr g re fi ro im hg
  have hga : zGa s (zMs s) w g re fi ro im w' g' re' fi' rt' 1 := Or.inr ⟨rfl, hn, hw'⟩
  have ec : zapg (fX11_layerOf K fa hd bc bs (nI (s 0)) rt (nI t)) q w fr g re fi ro im = some (Sum.inr (nI (zMs s t)), zrs q' w' fr' g' re' fi' rt' 1) := by
    unfold zapg fX11_layerOf
    rw [zd_tab ht hs5, Option.bind_some]
    show ((zap (fX4_refresh K fa hd bc bs rt) q w fr g re fi ro im).bind _) = _
    rw [er, Option.bind_some]
    show ((fX6_at 5 g' (nI t)).bind fun q24 => some (Sum.inr q24, zrs q' w' fr' g' re' fi' rt' 1)) = _
    rw [zX6_at g' (show t < 5 by omega) (by omega), hn.2.1 t (by omega)]; rfl
  refine ⟨(wd, fa, od, hd, qc, qs, bc, bs, nI (s 0), rt, H, q', w', fr', tr, g', re', fi', rt', 1, r, pk, cz, lh, lp, se, md, ff), ?_, zIk_ga h0 hga (zFo_ga hga hff)⟩
  unfold hX11_layerOf
  show ((zapg (fX11_layerOf K fa hd bc bs (nI (s 0)) rt (nI t)) q w fr g re fi ro im).bind _) = _
  rw [ec, Option.bind_some]
  rfl
theorem zd_reasons (K : Nat) (hK : 1000000 < K) {O : zObj} {s : Nat → Nat} {L : List (Nat → Nat)} (h : zIc O s L) {t x y z k : Nat} (ht : t < s 0) (hv : zvl 8 (s (1 + t)) x y z) (hk : k = 64 * x + 8 * y + z) : ∃ O', hX11_reasons K O (nI t) (nI x) (nI y) (nI z) = some (nI (zre (zRw s) s t k), O') ∧ zIc O' s L := by
  obtain ⟨wd, fa, od, hd, qc, qs, bc, bs, tt, rt, H, q, w, fr, tr, g, re, fi, ro, im, r, pk, cz, lh, lp, se, md, ff⟩ := O
  have h0 := h
  obtain ⟨hW, hB, hS, hH, hg, hff⟩ := h
  have hS : zSR wd fa od hd qc qs bc bs tt rt s := hS
  have htt : tt = nI (s 0) := hS.1
  subst htt
  have hs5 := hW.1
  obtain ⟨e3, e5, hk5, hz⟩ := zd_row hW hS.2.1 ht hv
  rw [← hk] at e5 hk5
  obtain ⟨q', w', fr', g', re', fi', rt', er, hn, hw'⟩ := zRefresh K hK hW (zMs_ok hW).1 (zMs_ok hW).2 hS.2.2.1 hS.2.2.2.2.2 q w fr g re fi ro im hg
  have hga : zGa s (zMs s) w g re fi ro im w' g' re' fi' rt' 1 := Or.inr ⟨rfl, hn, hw'⟩
  have ec : zapg (fX11_reasons K wd fa hd bc bs (nI (s 0)) rt (nI t) (nI x) (nI y) (nI z)) q w fr g re fi ro im = some (Sum.inr (nI (zre (zRw s) s t k)), zrs q' w' fr' g' re' fi' rt' 1) := by
    unfold zapg fX11_reasons
    rw [zd_tab ht hs5, Option.bind_some]
    show ((fX11_needRow wd (nI t) (nI x) (nI y) (nI z)).bind _) = _
    rw [e3, Option.bind_some]
    show ((zap (fX4_refresh K fa hd bc bs rt) q w fr g re fi ro im).bind _) = _
    rw [er, Option.bind_some]
    show ((fX11_rowOf (nI x) (nI y) (nI z)).bind fun q38 => (fX4_reasonsOf re' fa (nI t) q38).bind fun q41 => some (Sum.inr q41, zrs q' w' fr' g' re' fi' rt' 1)) = _
    rw [e5, Option.bind_some, zX4_reasonsOf hW.2.2.2.2.2.2.1 (zMs_ok hW).1 (zMs_ok hW).2 hn.2.2.1 hS.2.2.1 (show t < 5 by omega) hk5]; rfl
  refine ⟨(wd, fa, od, hd, qc, qs, bc, bs, nI (s 0), rt, H, q', w', fr', tr, g', re', fi', rt', 1, r, pk, cz, lh, lp, se, md, ff), ?_, zIk_ga h0 hga (zFo_ga hga hff)⟩
  unfold hX11_reasons
  show ((zapg (fX11_reasons K wd fa hd bc bs (nI (s 0)) rt (nI t) (nI x) (nI y) (nI z)) q w fr g re fi ro im).bind _) = _
  rw [ec, Option.bind_some]
  rfl
theorem zd_col {s : Nat → Nat} (hW : zWF s) {wd : Nat → Int32} (hwd : ∀ t, t < s 0 → wd t = nI (s (1 + t))) {t c : Nat} (ht : t < s 0) (hc : c < s (1 + t)) : fX11_needColumn wd (nI t) (nI c) = some (.inr (), ()) := by
  have h5 := hW.1
  obtain ⟨c1, c3⟩ := hW.2.1 t ht
  unfold fX11_needColumn
  rw [if_neg (nI_pos (by omega)), zX6_at wd (show t < 5 by omega) (by omega), Option.bind_some, hwd t ht, if_pos (by rw [zi_lt (by omega) (by omega)]; exact hc)]
theorem zd_rowAt (K : Nat) (hK : 1000000 < K) {O : zObj} {s : Nat → Nat} {L : List (Nat → Nat)} (h : zIc O s L) {t n c : Nat} (ht : t < s 0) (hc : c < s (1 + t)) (hnn : n < zcnt (zRw s t) 512) : ∃ O' r, r < 512 ∧ zRw s t r = true ∧ zcnt (zRw s t) r = n ∧ hX11_rowAt K O (nI t) (nI n) (nI c) = some (nI (zcol r c), O') ∧ zIc O' s L := by
  obtain ⟨wd, fa, od, hd, qc, qs, bc, bs, tt, rt, H, q, w, fr, tr, g, re, fi, ro, im, r0, pk, cz, lh, lp, se, md, ff⟩ := O
  have h0 := h
  obtain ⟨hW, hB, hS, hH, hg, hff⟩ := h
  have hS : zSR wd fa od hd qc qs bc bs tt rt s := hS
  have htt : tt = nI (s 0) := hS.1
  subst htt
  have hs5 := hW.1
  obtain ⟨c1, c3⟩ := hW.2.1 t ht
  obtain ⟨q', w', fr', g', re', fi', rt', er, hn, hw'⟩ := zRefresh K hK hW (zMs_ok hW).1 (zMs_ok hW).2 hS.2.2.1 hS.2.2.2.2.2 q w fr g re fi ro im hg
  have hga : zGa s (zMs s) w g re fi ro im w' g' re' fi' rt' 1 := Or.inr ⟨rfl, hn, hw'⟩
  have h2 := zcnt_le (zRw s t) 512
  have hcs : zcnt (zw w' t) 512 = zcnt (zRw s t) 512 := zcnt_cong (fun j hj => hn.1 t j (by omega) hj)
  obtain ⟨r, hr, hr1, hr2, hr3⟩ := zX7_numbered K (by omega) w' (show t < 5 by omega) (n := n) (by rw [hcs]; exact hnn)
  have hRr : zRw s t r = true := by
    rw [← hr1]
    exact (hn.1 t r (by omega) hr).symm
  have hcr : zcnt (zRw s t) r = n := by rw [← hr2]; exact zcnt_cong (fun j hj => (hn.1 t j (by omega) (by omega)).symm)
  have hv2 : fX11_valueIn (nI r) (nI c) = some (nI (zcol r c)) := zX11_valueIn hr (by omega)
  have ec : zapg (fX11_rowAt K wd fa hd bc bs (nI (s 0)) rt (nI t) (nI n) (nI c)) q w fr g re fi ro im = some (Sum.inr (nI (zcol r c)), zrs q' w' fr' g' re' fi' rt' 1) := by
    unfold zapg fX11_rowAt
    rw [zd_tab ht hs5, Option.bind_some]
    show ((fX11_needColumn wd (nI t) (nI c)).bind _) = _
    rw [zd_col hW hS.2.1 ht hc, Option.bind_some]
    show ((zap (fX4_refresh K fa hd bc bs rt) q w fr g re fi ro im).bind _) = _
    rw [er, Option.bind_some, if_neg (nI_pos (by omega))]
    show ((fX7_size K w' (nI t)).bind fun q35 => if nI n < q35 then ((fX7_numbered K w' (nI t) (nI n)).bind fun q60 => (fX11_valueIn q60 (nI c)).bind fun q64 => some (Sum.inr q64, zrs q' w' fr' g' re' fi' rt' 1)) else _) = _
    rw [zX7_size K (by omega) w' (show t < 5 by omega), Option.bind_some, hcs, if_pos (by rw [zi_lt (by omega) (by omega)]; exact hnn), hr3, Option.bind_some, hv2, Option.bind_some]
  refine ⟨(wd, fa, od, hd, qc, qs, bc, bs, nI (s 0), rt, H, q', w', fr', tr, g', re', fi', rt', 1, r0, pk, cz, lh, lp, se, md, ff), r, hr, hRr, hcr, ?_, zIk_ga h0 hga (zFo_ga hga hff)⟩
  unfold hX11_rowAt
  show ((zapg (fX11_rowAt K wd fa hd bc bs (nI (s 0)) rt (nI t) (nI n) (nI c)) q w fr g re fi ro im).bind _) = _
  rw [ec, Option.bind_some]
  rfl
