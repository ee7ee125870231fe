/-! the arms of the law's loop -/
set_option maxHeartbeats 4000000 in
set_option maxRecDepth 100000 in
theorem zarm_answers (K : Nat) (hK9 : 1000000 < K) {p : Program} {l : Launch} {e0 : Env} {s : State} {m : MethodId} {below : List Frame} {meth : Method} {cd : Code} {sb L : Nat} {xs : Nat → Int32} {G : va_G} {tt : Nat → ClassId} {sa : Nat → Nat} (C : zCtx p l s m meth cd sb L xs G tt sa) (a : Nat → Nat) (b : Nat → Nat → Nat) (d : Nat → Nat → Nat → Nat) (c : Nat → Nat) (ao : Nat) {i : Nat} {iI : Int32} (hi : i + 7 ≤ L) (hiI : iI = nI i) {ce sl : Nat} (hce : ce ≤ 600000) (hsl : sl ≤ 7290000) {H0 : Heap} {locs : List Loc} (hw : zWorld G tt a b d c ao (fun q : Nat => s.heap.size ≤ q) H0) (hS : va_S (fun q : Nat => s.heap.size ≤ q) s.heap H0 locs) {ls : Array Slot} (hl : lv_has ls 9 [(0, .ref sb), (1, .ref (a 0)), (2, .ref (c 0)), (3, .ref ao), (4, .int iI)])
    (kk : ∀ (H1 : Heap) (locs1 : List Loc) (ls1 : Array Slot), zWorld G tt a b d c ao (fun q : Nat => s.heap.size ≤ q) H1 → va_S (fun q : Nat => s.heap.size ≤ q) s.heap H1 locs1 → lv_has ls1 9 [(0, .ref sb), (1, .ref (a 0)), (2, .ref (c 0)), (3, .ref ao), (4, .int iI)] → W p l e0 room_1 s m #[Value.ref sb] below meth cd H1 locs1 (ce + 4) (sl + 24) (lw_Z below #[Value.ref sb] s) (F0 m 2784 ls1 [])) :
    W p l e0 room_1 s m #[Value.ref sb] below meth cd H0 locs ce sl (lw_Z below #[Value.ref sb] s) (F0 m 1787 ls []) := by
  obtain ⟨wd, fa, od, hd, qc, qs, bc, bs, tl, rl, H, q, w, fr, tr, g, re, fi, ro, im, r, pk, cz, lh, lp, se, md, ff, now, before, chg, th, row, comes, layer, rounds, value, place, places, made, lq, left, gone, vo, hI, hP, hD⟩ := hw
  obtain ⟨hlt, hL, C0, hK, hN, hX, hNc⟩ := C
  obtain ⟨hx, hb, hr, hml, hown, hts0, hX9, hbl, hlocks, hgv⟩ := C0
  have hts : ∀ w ∈ wsL_law, w.before #[Value.ref sb] s = true := fun w h => hts0 w (zL_law w h)
  have hown : s.vm.findClass RL = some m.cls := hown
  have hA9 : ∀ q : Nat, s.heap.size ≤ q → (fun q : Nat => s.heap.size ≤ q) q := fun _ h => h
  have hbA : ¬ (fun q : Nat => s.heap.size ≤ q) sb := Nat.not_le.mpr hbl
  have hc0 : ce ≤ room_1.cells := by show ce ≤ 601024; omega
  have hs0 : sl ≤ room_1.slots := by show sl ≤ 7293034; omega
  have hc1 : ce + 1 ≤ room_1.cells := by show ce + 1 ≤ 601024; omega
  have hs1 : sl + 6 ≤ room_1.slots := by show sl + 6 ≤ 7293034; omega
  refine lv_aload_n hx hb dL_law_1787 rfl (lv_at hl 1 rfl) ?_
  refine lv_aload_n hx hb dL_law_1788 rfl (lv_at hl 0 rfl) ?_
  refine lv_iload hx hb dL_law_1789 (lv_at hl 4 rfl) ?_
  refine lv_iconst (v := (1 : Int32)) hx hb dL_law_1791 (by decide) ?_
  refine lv_iadd hx hb dL_law_1792 ?_
  refine va_sld hx hb hX9 hbl hbA hS (zin_L hi hL hiI 1 (by decide) (1 : Int32) rfl) dL_law_1793 ?_
  refine lv_topi (fun x1 ex1 => ?_)
  refine lv_aload_n hx hb dL_law_1794 rfl (lv_at hl 3 rfl) ?_
  obtain ⟨e, bb, q', w', fr', g', re', fi', ro', im', r', ff', value', place', places', e1, e2, hA, hI'⟩ := zI_answers K hK9 hI q fr x1 th place places
  unfold zapr zapg at e1
  refine z_callW (wc := (ao, zoc tt vo) :: wL tt a b d wd fa od hd qc qs bc bs tl rl H q w fr tr g re fi ro im r pk cz lh lp se md ff) (wr := wM tt c now before chg th row comes layer rounds value place places made lq left gone) (As := [.ref (a 0), .int x1, .ref ao]) (rest := []) ⟨hx, hb, hml, hown, hts⟩ hK hN hX hNc hP hD hS hA9 (mL_answers l G tt sa hlt H0.size K a b d wd fa od hd qc qs bc bs tl rl H q w fr tr g re fi ro im r pk cz lh lp se md ff x1 ao vo _ e1 bb hA) (vx_cwSW 3 hts gL_law_L_answers rfl rfl rfl (by decide +kernel) ⟨Nat.le_of_ble_eq_true rfl, Nat.le_of_ble_eq_true rfl⟩) rfl hl.1 rfl (Nat.le_of_ble_eq_true rfl) dL_law_1795 ⟨hc1, hs1⟩ (fun rr u H0 locs hw hP hD hS => ?_)
  obtain ⟨hw1, hw2⟩ := hw
  replace hw1 := hw1.symm; subst hw1
  replace hw2 := hw2.symm; subst hw2
  have hP : va_P G vwCl (wM tt c now before chg th row comes layer rounds value place places made lq left gone ++ ((ao, zoc tt (zout Int32.toInt64 vo e)) :: wL tt a b d wd fa od hd qc qs bc bs tl rl H q' w' fr' tr g' re' fi' ro' im' r' pk cz lh lp se md ff')) H0 := hP
  have hD : va_D (fun q : Nat => s.heap.size ≤ q) (wM tt c now before chg th row comes layer rounds value place places made lq left gone ++ ((ao, zoc tt (zout Int32.toInt64 vo e)) :: wL tt a b d wd fa od hd qc qs bc bs tl rl H q' w' fr' tr g' re' fi' ro' im' r' pk cz lh lp se md ff')) := hD
  refine lv_istore (lv' := [(5, .int bb.2), (0, .ref sb), (1, .ref (a 0)), (2, .ref (c 0)), (3, .ref ao), (4, .int iI)]) hx hb dL_law_1798 hl (by decide) rfl (fun ls hl => ?_)
  refine lv_aload_n hx hb dL_law_1800 rfl (lv_at hl 3 rfl) ?_
  refine lv_aload_n hx hb dL_law_1801 rfl (lv_at hl 1 rfl) ?_
  refine lv_iload hx hb dL_law_1802 (lv_at hl 5 rfl) ?_
  refine lv_iconst (v := (1 : Int32)) hx hb dL_law_1804 (by decide) ?_
  refine lv_iadd hx hb dL_law_1805 ?_
  refine va_sld hx hb hX9 hbl hbA hS (zin_L hi hL hiI 1 (by decide) (1 : Int32) rfl) dL_law_1806 ?_
  refine lv_topi (fun x2 ex2 => ?_)
  obtain rfl : x2 = x1 := ex2.trans ex1.symm
  refine z_callVi (wc := wM tt c now before chg th row comes layer rounds value place places made lq left gone) (wr := (ao, zoc tt (zout Int32.toInt64 vo e)) :: wL tt a b d wd fa od hd qc qs bc bs tl rl H q' w' fr' tr g' re' fi' ro' im' r' pk cz lh lp se md ff') (As := [.int x2]) (rest := []) (ci := 11) ⟨hx, hb, hml, hown, hts⟩ hK hN hP hD hS hA9 (nX12_answers l G tt H0.size K c now before chg th row comes layer rounds value place places made lq left gone x2 _ e2) (cwV 1 hts gL_law_X12_answers rfl rfl rfl (by decide +kernel) ⟨Nat.le_of_ble_eq_true rfl, Nat.le_of_ble_eq_true rfl⟩) rfl rfl rfl hl.1 rfl (Nat.le_of_ble_eq_true rfl) dL_law_1807 ⟨hc1, hs1⟩ (fun rr u H0 locs hw hP hD hS => ?_)
  obtain ⟨hw1, hw2⟩ := hw
  replace hw1 := hw1.symm; subst hw1
  replace hw2 := hw2.symm; subst hw2
  have hP : va_P G vwCl (((ao, zoc tt (zout Int32.toInt64 vo e)) :: wL tt a b d wd fa od hd qc qs bc bs tl rl H q' w' fr' tr g' re' fi' ro' im' r' pk cz lh lp se md ff') ++ wM tt c now before chg bb.2 row comes layer rounds value' place' places' made lq left gone) H0 := hP
  have hD : va_D (fun q : Nat => s.heap.size ≤ q) (((ao, zoc tt (zout Int32.toInt64 vo e)) :: wL tt a b d wd fa od hd qc qs bc bs tl rl H q' w' fr' tr g' re' fi' ro' im' r' pk cz lh lp se md ff') ++ wM tt c now before chg bb.2 row comes layer rounds value' place' places' made lq left gone) := hD
  refine lv_istore (lv' := [(6, .int bb.1), (5, .int bb.2), (0, .ref sb), (1, .ref (a 0)), (2, .ref (c 0)), (3, .ref ao), (4, .int iI)]) hx hb dL_law_1810 hl (by decide) rfl (fun ls hl => ?_)
  refine lv_aload_n hx hb dL_law_1812 rfl (lv_at hl 4 rfl) ?_
  have hP := zP_perm (List.perm_append_comm (l₁ := (ao, zoc tt (zout Int32.toInt64 vo e)) :: wL tt a b d wd fa od hd qc qs bc bs tl rl H q' w' fr' tr g' re' fi' ro' im' r' pk cz lh lp se md ff') (l₂ := wM tt c now before chg bb.2 row comes layer rounds value' place' places' made lq left gone)) hP
  have hD := zD_perm (List.perm_append_comm (l₁ := (ao, zoc tt (zout Int32.toInt64 vo e)) :: wL tt a b d wd fa od hd qc qs bc bs tl rl H q' w' fr' tr g' re' fi' ro' im' r' pk cz lh lp se md ff') (l₂ := wM tt c now before chg bb.2 row comes layer rounds value' place' places' made lq left gone)) hD
  refine z_callVi (wc := wM tt c now before chg bb.2 row comes layer rounds value' place' places' made lq left gone) (wr := (ao, zoc tt (zout Int32.toInt64 vo e)) :: wL tt a b d wd fa od hd qc qs bc bs tl rl H q' w' fr' tr g' re' fi' ro' im' r' pk cz lh lp se md ff') (As := []) (rest := []) (ci := 11) ⟨hx, hb, hml, hown, hts⟩ hK hN hP hD hS hA9 (nX12_thrown l G tt H0.size c now before chg bb.2 row comes layer rounds value' place' places' made lq left gone bb.2 rfl) (cwV 0 hts gL_law_X12_thrown rfl rfl rfl (by decide +kernel) ⟨Nat.le_of_ble_eq_true rfl, Nat.le_of_ble_eq_true rfl⟩) rfl rfl rfl hl.1 rfl (Nat.le_of_ble_eq_true rfl) dL_law_1813 ⟨hc1, hs1⟩ (fun rr u H0 locs hw hP hD hS => ?_)
  replace hw := hw.symm; subst hw
  have hP : va_P G vwCl (((ao, zoc tt (zout Int32.toInt64 vo e)) :: wL tt a b d wd fa od hd qc qs bc bs tl rl H q' w' fr' tr g' re' fi' ro' im' r' pk cz lh lp se md ff') ++ wM tt c now before chg bb.2 row comes layer rounds value' place' places' made lq left gone) H0 := hP
  have hD : va_D (fun q : Nat => s.heap.size ≤ q) (((ao, zoc tt (zout Int32.toInt64 vo e)) :: wL tt a b d wd fa od hd qc qs bc bs tl rl H q' w' fr' tr g' re' fi' ro' im' r' pk cz lh lp se md ff') ++ wM tt c now before chg bb.2 row comes layer rounds value' place' places' made lq left gone) := hD
  refine lv_iload hx hb dL_law_1816 (lv_at hl 1 rfl) ?_
  refine lv_icmp_eq (tgt := 1823) hx hb dL_law_1818 (by decide) (fun _ => ?_) (fun h9 => absurd rfl h9)
  refine lv_iload hx hb dL_law_1823 (lv_at hl 1 rfl) ?_
  rcases hA with ⟨k9, hk9, ek, rfl⟩ | ⟨v9, ev, rfl⟩
  · refine lv_if_ne (tgt := 1840) hx hb dL_law_1825 (by decide) (fun _ => ?_) (fun h9 => absurd h9 (fun h => zcd_ne k9 h))
    refine lv_goto (tgt := 2784) hx hb dL_law_1840 (by decide) ?_
    refine z_widen (k := ce + 4) (n := sl + 24) (by omega) (by omega) ?_
    exact kk H0 locs ls ⟨wd, fa, od, hd, qc, qs, bc, bs, tl, rl, H, q', w', fr', tr, g', re', fi', ro', im', r', pk, cz, lh, lp, se, md, ff', now, before, chg, _, row, comes, layer, rounds, value', place', places', made, lq, left, gone, (zout Int32.toInt64 vo e), hI', hP, hD⟩ hS (lv_sub hl [2, 3, 4, 5, 6] rfl)
  · refine lv_if_ne (tgt := 1840) hx hb dL_law_1825 (by decide) (fun h9 => absurd rfl h9) (fun _ => ?_)
    refine lv_aload_n hx hb dL_law_1828 rfl (lv_at hl 5 rfl) ?_
    refine lv_iconst (v := (0 : Int32)) hx hb dL_law_1829 (by decide) ?_
    refine va_lald hx hb hK hP 0 1 rfl rfl (inB_vp (by decide)) dL_law_1830 ?_
    refine lv_iload hx hb dL_law_1831 (lv_at hl 0 rfl) ?_
    refine lv_i2l hx hb dL_law_1833 rfl ?_
    refine W.lcmp hx hb dL_law_1834 ?_
    refine lv_if_eq (tgt := 1840) hx hb dL_law_1835 (by decide) (fun _ => ?_) (fun h9 => absurd ((lg_cmp_eq _ _).mpr (by subst ev; exact (zout_at Int32.toInt64 vo v9))) h9)
    refine lv_goto (tgt := 2784) hx hb dL_law_1840 (by decide) ?_
    refine z_widen (k := ce + 4) (n := sl + 24) (by omega) (by omega) ?_
    exact kk H0 locs ls ⟨wd, fa, od, hd, qc, qs, bc, bs, tl, rl, H, q', w', fr', tr, g', re', fi', ro', im', r', pk, cz, lh, lp, se, md, ff', now, before, chg, _, row, comes, layer, rounds, value', place', places', made, lq, left, gone, (zout Int32.toInt64 vo e), hI', hP, hD⟩ hS (lv_sub hl [2, 3, 4, 5, 6] rfl)

set_option maxHeartbeats 4000000 in
set_option maxRecDepth 100000 in
theorem zarm_answerAt (K : Nat) (hK9 : 1000000 < K) {p : Program} {l : Launch} {e0 : Env} {s : State} {m : MethodId} {below : List Frame} {meth : Method} {cd : Code} {sb L : Nat} {xs : Nat → Int32} {G : va_G} {tt : Nat → ClassId} {sa : Nat → Nat} (C : zCtx p l s m meth cd sb L xs G tt sa) (a : Nat → Nat) (b : Nat → Nat → Nat) (d : Nat → Nat → Nat → Nat) (c : Nat → Nat) (ao : Nat) {i : Nat} {iI : Int32} (hi : i + 7 ≤ L) (hiI : iI = nI i) {ce sl : Nat} (hce : ce ≤ 600000) (hsl : sl ≤ 7290000) {H0 : Heap} {locs : List Loc} (hw : zWorld G tt a b d c ao (fun q : Nat => s.heap.size ≤ q) H0) (hS : va_S (fun q : Nat => s.heap.size ≤ q) s.heap H0 locs) {ls : Array Slot} (hl : lv_has ls 9 [(0, .ref sb), (1, .ref (a 0)), (2, .ref (c 0)), (3, .ref ao), (4, .int iI)])
    (kk : ∀ (H1 : Heap) (locs1 : List Loc) (ls1 : Array Slot), zWorld G tt a b d c ao (fun q : Nat => s.heap.size ≤ q) H1 → va_S (fun q : Nat => s.heap.size ≤ q) s.heap H1 locs1 → lv_has ls1 9 [(0, .ref sb), (1, .ref (a 0)), (2, .ref (c 0)), (3, .ref ao), (4, .int iI)] → W p l e0 room_1 s m #[Value.ref sb] below meth cd H1 locs1 (ce + 4) (sl + 24) (lw_Z below #[Value.ref sb] s) (F0 m 2784 ls1 [])) :
    W p l e0 room_1 s m #[Value.ref sb] below meth cd H0 locs ce sl (lw_Z below #[Value.ref sb] s) (F0 m 1843 ls []) := by
  obtain ⟨wd, fa, od, hd, qc, qs, bc, bs, tl, rl, H, q, w, fr, tr, g, re, fi, ro, im, r, pk, cz, lh, lp, se, md, ff, now, before, chg, th, row, comes, layer, rounds, value, place, places, made, lq, left, gone, vo, hI, hP, hD⟩ := hw
  obtain ⟨hlt, hL, C0, hK, hN, hX, hNc⟩ := C
  obtain ⟨hx, hb, hr, hml, hown, hts0, hX9, hbl, hlocks, hgv⟩ := C0
  have hts : ∀ w ∈ wsL_law, w.before #[Value.ref sb] s = true := fun w h => hts0 w (zL_law w h)
  have hown : s.vm.findClass RL = some m.cls := hown
  have hA9 : ∀ q : Nat, s.heap.size ≤ q → (fun q : Nat => s.heap.size ≤ q) q := fun _ h => h
  have hbA : ¬ (fun q : Nat => s.heap.size ≤ q) sb := Nat.not_le.mpr hbl
  have hc0 : ce ≤ room_1.cells := by show ce ≤ 601024; omega
  have hs0 : sl ≤ room_1.slots := by show sl ≤ 7293034; omega
  have hc1 : ce + 3 ≤ room_1.cells := by show ce + 3 ≤ 601024; omega
  have hs1 : sl + 18 ≤ room_1.slots := by show sl + 18 ≤ 7293034; omega
  refine lv_aload_n hx hb dL_law_1843 rfl (lv_at hl 1 rfl) ?_
  refine lv_aload_n hx hb dL_law_1844 rfl (lv_at hl 0 rfl) ?_
  refine lv_iload hx hb dL_law_1845 (lv_at hl 4 rfl) ?_
  refine lv_iconst (v := (1 : Int32)) hx hb dL_law_1847 (by decide) ?_
  refine lv_iadd hx hb dL_law_1848 ?_
  refine va_sld hx hb hX9 hbl hbA hS (zin_L hi hL hiI 1 (by decide) (1 : Int32) rfl) dL_law_1849 ?_
  refine lv_topi (fun x1 ex1 => ?_)
  refine lv_aload_n hx hb dL_law_1850 rfl (lv_at hl 0 rfl) ?_
  refine lv_iload hx hb dL_law_1851 (lv_at hl 4 rfl) ?_
  refine lv_iconst (v := (2 : Int32)) hx hb dL_law_1853 (by decide) ?_
  refine lv_iadd hx hb dL_law_1854 ?_
  refine va_sld hx hb hX9 hbl hbA hS (zin_L hi hL hiI 2 (by decide) (2 : Int32) rfl) dL_law_1855 ?_
  refine lv_topi (fun x2 ex2 => ?_)
  refine lv_aload_n hx hb dL_law_1856 rfl (lv_at hl 0 rfl) ?_
  refine lv_iload hx hb dL_law_1857 (lv_at hl 4 rfl) ?_
  refine lv_iconst (v := (3 : Int32)) hx hb dL_law_1859 (by decide) ?_
  refine lv_iadd hx hb dL_law_1860 ?_
  refine va_sld hx hb hX9 hbl hbA hS (zin_L hi hL hiI 3 (by decide) (3 : Int32) rfl) dL_law_1861 ?_
  refine lv_topi (fun x3 ex3 => ?_)
  refine lv_aload_n hx hb dL_law_1862 rfl (lv_at hl 3 rfl) ?_
  obtain ⟨e, bb, q', w', fr', g', re', fi', ro', im', r', pk', ff', value', place', places', e1, e2, hA, hI'⟩ := zI_answerAt K hK9 hI q fr x1 x2 x3 th pk place places
  unfold zapr zapg at e1
  refine z_callW (wc := (ao, zoc tt vo) :: wL tt a b d wd fa od hd qc qs bc bs tl rl H q w fr tr g re fi ro im r pk cz lh lp se md ff) (wr := wM tt c now before chg th row comes layer rounds value place places made lq left gone) (As := [.ref (a 0), .int x1, .int x2, .int x3, .ref ao]) (rest := []) ⟨hx, hb, hml, hown, hts⟩ hK hN hX hNc hP hD hS hA9 (mL_answerAt l G tt sa hlt H0.size K a b d wd fa od hd qc qs bc bs tl rl H q w fr tr g re fi ro im r pk cz lh lp se md ff x1 x2 x3 ao vo _ e1 bb hA) (vx_cwSW 5 hts gL_law_L_answerAt rfl rfl rfl (by decide +kernel) ⟨Nat.le_of_ble_eq_true rfl, Nat.le_of_ble_eq_true rfl⟩) rfl hl.1 rfl (Nat.le_of_ble_eq_true rfl) dL_law_1863 ⟨hc1, hs1⟩ (fun rr u H0 locs hw hP hD hS => ?_)
  obtain ⟨hw1, hw2⟩ := hw
  replace hw1 := hw1.symm; subst hw1
  replace hw2 := hw2.symm; subst hw2
  have hP : va_P G vwCl (wM tt c now before chg th row comes layer rounds value place places made lq left gone ++ ((ao, zoc tt (zout Int32.toInt64 vo e)) :: wL tt a b d wd fa od hd qc qs bc bs tl rl H q' w' fr' tr g' re' fi' ro' im' r' pk' cz lh lp se md ff')) H0 := hP
  have hD : va_D (fun q : Nat => s.heap.size ≤ q) (wM tt c now before chg th row comes layer rounds value place places made lq left gone ++ ((ao, zoc tt (zout Int32.toInt64 vo e)) :: wL tt a b d wd fa od hd qc qs bc bs tl rl H q' w' fr' tr g' re' fi' ro' im' r' pk' cz lh lp se md ff')) := hD
  refine lv_istore (lv' := [(5, .int bb.2), (0, .ref sb), (1, .ref (a 0)), (2, .ref (c 0)), (3, .ref ao), (4, .int iI)]) hx hb dL_law_1866 hl (by decide) rfl (fun ls hl => ?_)
  refine lv_aload_n hx hb dL_law_1868 rfl (lv_at hl 3 rfl) ?_
  refine lv_aload_n hx hb dL_law_1869 rfl (lv_at hl 1 rfl) ?_
  refine lv_iload hx hb dL_law_1870 (lv_at hl 5 rfl) ?_
  refine lv_iconst (v := (1 : Int32)) hx hb dL_law_1872 (by decide) ?_
  refine lv_iadd hx hb dL_law_1873 ?_
  refine va_sld hx hb hX9 hbl hbA hS (zin_L hi hL hiI 1 (by decide) (1 : Int32) rfl) dL_law_1874 ?_
  refine lv_topi (fun x4 ex4 => ?_)
  obtain rfl : x4 = x1 := ex4.trans ex1.symm
  refine lv_aload_n hx hb dL_law_1875 rfl (lv_at hl 1 rfl) ?_
  refine lv_iload hx hb dL_law_1876 (lv_at hl 5 rfl) ?_
  refine lv_iconst (v := (2 : Int32)) hx hb dL_law_1878 (by decide) ?_
  refine lv_iadd hx hb dL_law_1879 ?_
  refine va_sld hx hb hX9 hbl hbA hS (zin_L hi hL hiI 2 (by decide) (2 : Int32) rfl) dL_law_1880 ?_
  refine lv_topi (fun x5 ex5 => ?_)
  obtain rfl : x5 = x2 := ex5.trans ex2.symm
  refine lv_aload_n hx hb dL_law_1881 rfl (lv_at hl 1 rfl) ?_
  refine lv_iload hx hb dL_law_1882 (lv_at hl 5 rfl) ?_
  refine lv_iconst (v := (3 : Int32)) hx hb dL_law_1884 (by decide) ?_
  refine lv_iadd hx hb dL_law_1885 ?_
  refine va_sld hx hb hX9 hbl hbA hS (zin_L hi hL hiI 3 (by decide) (3 : Int32) rfl) dL_law_1886 ?_
  refine lv_topi (fun x6 ex6 => ?_)
  obtain rfl : x6 = x3 := ex6.trans ex3.symm
  refine z_callVi (wc := wM tt c now before chg th row comes layer rounds value place places made lq left gone) (wr := (ao, zoc tt (zout Int32.toInt64 vo e)) :: wL tt a b d wd fa od hd qc qs bc bs tl rl H q' w' fr' tr g' re' fi' ro' im' r' pk' cz lh lp se md ff') (As := [.int x4, .int x5, .int x6]) (rest := []) (ci := 11) ⟨hx, hb, hml, hown, hts⟩ hK hN hP hD hS hA9 (nX12_answerAt l G tt H0.size K c now before chg th row comes layer rounds value place places made lq left gone x4 x5 x6 _ e2) (cwV 3 hts gL_law_X12_answerAt rfl rfl rfl (by decide +kernel) ⟨Nat.le_of_ble_eq_true rfl, Nat.le_of_ble_eq_true rfl⟩) rfl rfl rfl hl.1 rfl (Nat.le_of_ble_eq_true rfl) dL_law_1887 ⟨hc1, hs1⟩ (fun rr u H0 locs hw hP hD hS => ?_)
  obtain ⟨hw1, hw2⟩ := hw
  replace hw1 := hw1.symm; subst hw1
  replace hw2 := hw2.symm; subst hw2
  have hP : va_P G vwCl (((ao, zoc tt (zout Int32.toInt64 vo e)) :: wL tt a b d wd fa od hd qc qs bc bs tl rl H q' w' fr' tr g' re' fi' ro' im' r' pk' cz lh lp se md ff') ++ wM tt c now before chg bb.2 row comes layer rounds value' place' places' made lq left gone) H0 := hP
  have hD : va_D (fun q : Nat => s.heap.size ≤ q) (((ao, zoc tt (zout Int32.toInt64 vo e)) :: wL tt a b d wd fa od hd qc qs bc bs tl rl H q' w' fr' tr g' re' fi' ro' im' r' pk' cz lh lp se md ff') ++ wM tt c now before chg bb.2 row comes layer rounds value' place' places' made lq left gone) := hD
  refine lv_istore (lv' := [(6, .int bb.1), (5, .int bb.2), (0, .ref sb), (1, .ref (a 0)), (2, .ref (c 0)), (3, .ref ao), (4, .int iI)]) hx hb dL_law_1890 hl (by decide) rfl (fun ls hl => ?_)
  refine lv_aload_n hx hb dL_law_1892 rfl (lv_at hl 4 rfl) ?_
  have hP := zP_perm (List.perm_append_comm (l₁ := (ao, zoc tt (zout Int32.toInt64 vo e)) :: wL tt a b d wd fa od hd qc qs bc bs tl rl H q' w' fr' tr g' re' fi' ro' im' r' pk' cz lh lp se md ff') (l₂ := wM tt c now before chg bb.2 row comes layer rounds value' place' places' made lq left gone)) hP
  have hD := zD_perm (List.perm_append_comm (l₁ := (ao, zoc tt (zout Int32.toInt64 vo e)) :: wL tt a b d wd fa od hd qc qs bc bs tl rl H q' w' fr' tr g' re' fi' ro' im' r' pk' cz lh lp se md ff') (l₂ := wM tt c now before chg bb.2 row comes layer rounds value' place' places' made lq left gone)) hD
  refine z_callVi (wc := wM tt c now before chg bb.2 row comes layer rounds value' place' places' made lq left gone) (wr := (ao, zoc tt (zout Int32.toInt64 vo e)) :: wL tt a b d wd fa od hd qc qs bc bs tl rl H q' w' fr' tr g' re' fi' ro' im' r' pk' cz lh lp se md ff') (As := []) (rest := []) (ci := 11) ⟨hx, hb, hml, hown, hts⟩ hK hN hP hD hS hA9 (nX12_thrown l G tt H0.size c now before chg bb.2 row comes layer rounds value' place' places' made lq left gone bb.2 rfl) (cwV 0 hts gL_law_X12_thrown rfl rfl rfl (by decide +kernel) ⟨Nat.le_of_ble_eq_true rfl, Nat.le_of_ble_eq_true rfl⟩) rfl rfl rfl hl.1 rfl (Nat.le_of_ble_eq_true rfl) dL_law_1893 ⟨hc1, hs1⟩ (fun rr u H0 locs hw hP hD hS => ?_)
  replace hw := hw.symm; subst hw
  have hP : va_P G vwCl (((ao, zoc tt (zout Int32.toInt64 vo e)) :: wL tt a b d wd fa od hd qc qs bc bs tl rl H q' w' fr' tr g' re' fi' ro' im' r' pk' cz lh lp se md ff') ++ wM tt c now before chg bb.2 row comes layer rounds value' place' places' made lq left gone) H0 := hP
  have hD : va_D (fun q : Nat => s.heap.size ≤ q) (((ao, zoc tt (zout Int32.toInt64 vo e)) :: wL tt a b d wd fa od hd qc qs bc bs tl rl H q' w' fr' tr g' re' fi' ro' im' r' pk' cz lh lp se md ff') ++ wM tt c now before chg bb.2 row comes layer rounds value' place' places' made lq left gone) := hD
  refine lv_iload hx hb dL_law_1896 (lv_at hl 1 rfl) ?_
  refine lv_icmp_eq (tgt := 1903) hx hb dL_law_1898 (by decide) (fun _ => ?_) (fun h9 => absurd rfl h9)
  refine lv_iload hx hb dL_law_1903 (lv_at hl 1 rfl) ?_
  rcases hA with ⟨k9, hk9, ek, rfl⟩ | ⟨v9, ev, rfl⟩
  · refine lv_if_ne (tgt := 1920) hx hb dL_law_1905 (by decide) (fun _ => ?_) (fun h9 => absurd h9 (fun h => zcd_ne k9 h))
    refine lv_goto (tgt := 2784) hx hb dL_law_1920 (by decide) ?_
    refine z_widen (k := ce + 4) (n := sl + 24) (by omega) (by omega) ?_
    exact kk H0 locs ls ⟨wd, fa, od, hd, qc, qs, bc, bs, tl, rl, H, q', w', fr', tr, g', re', fi', ro', im', r', pk', cz, lh, lp, se, md, ff', now, before, chg, _, row, comes, layer, rounds, value', place', places', made, lq, left, gone, (zout Int32.toInt64 vo e), hI', hP, hD⟩ hS (lv_sub hl [2, 3, 4, 5, 6] rfl)
  · refine lv_if_ne (tgt := 1920) hx hb dL_law_1905 (by decide) (fun h9 => absurd rfl h9) (fun _ => ?_)
    refine lv_aload_n hx hb dL_law_1908 rfl (lv_at hl 5 rfl) ?_
    refine lv_iconst (v := (0 : Int32)) hx hb dL_law_1909 (by decide) ?_
    refine va_lald hx hb hK hP 0 1 rfl rfl (inB_vp (by decide)) dL_law_1910 ?_
    refine lv_iload hx hb dL_law_1911 (lv_at hl 0 rfl) ?_
    refine lv_i2l hx hb dL_law_1913 rfl ?_
    refine W.lcmp hx hb dL_law_1914 ?_
    refine lv_if_eq (tgt := 1920) hx hb dL_law_1915 (by decide) (fun _ => ?_) (fun h9 => absurd ((lg_cmp_eq _ _).mpr (by subst ev; exact (zout_at Int32.toInt64 vo v9))) h9)
    refine lv_goto (tgt := 2784) hx hb dL_law_1920 (by decide) ?_
    refine z_widen (k := ce + 4) (n := sl + 24) (by omega) (by omega) ?_
    exact kk H0 locs ls ⟨wd, fa, od, hd, qc, qs, bc, bs, tl, rl, H, q', w', fr', tr, g', re', fi', ro', im', r', pk', cz, lh, lp, se, md, ff', now, before, chg, _, row, comes, layer, rounds, value', place', places', made, lq, left, gone, (zout Int32.toInt64 vo e), hI', hP, hD⟩ hS (lv_sub hl [2, 3, 4, 5, 6] rfl)

set_option maxHeartbeats 4000000 in
set_option maxRecDepth 100000 in
theorem zarm_seek (K : Nat) (hK9 : 1000000 < K) {p : Program} {l : Launch} {e0 : Env} {s : State} {m : MethodId} {below : List Frame} {meth : Method} {cd : Code} {sb L : Nat} {xs : Nat → Int32} {G : va_G} {tt : Nat → ClassId} {sa : Nat → Nat} (C : zCtx p l s m meth cd sb L xs G tt sa) (a : Nat → Nat) (b : Nat → Nat → Nat) (d : Nat → Nat → Nat → Nat) (c : Nat → Nat) (ao : Nat) {i : Nat} {iI : Int32} (hi : i + 7 ≤ L) (hiI : iI = nI i) {ce sl : Nat} (hce : ce ≤ 600000) (hsl : sl ≤ 7290000) {H0 : Heap} {locs : List Loc} (hw : zWorld G tt a b d c ao (fun q : Nat => s.heap.size ≤ q) H0) (hS : va_S (fun q : Nat => s.heap.size ≤ q) s.heap H0 locs) {ls : Array Slot} (hl : lv_has ls 9 [(0, .ref sb), (1, .ref (a 0)), (2, .ref (c 0)), (3, .ref ao), (4, .int iI)])
    (kk : ∀ (H1 : Heap) (locs1 : List Loc) (ls1 : Array Slot), zWorld G tt a b d c ao (fun q : Nat => s.heap.size ≤ q) H1 → va_S (fun q : Nat => s.heap.size ≤ q) s.heap H1 locs1 → lv_has ls1 9 [(0, .ref sb), (1, .ref (a 0)), (2, .ref (c 0)), (3, .ref ao), (4, .int iI)] → W p l e0 room_1 s m #[Value.ref sb] below meth cd H1 locs1 (ce + 4) (sl + 24) (lw_Z below #[Value.ref sb] s) (F0 m 2784 ls1 [])) :
    W p l e0 room_1 s m #[Value.ref sb] below meth cd H0 locs ce sl (lw_Z below #[Value.ref sb] s) (F0 m 1923 ls []) := by
  obtain ⟨wd, fa, od, hd, qc, qs, bc, bs, tl, rl, H, q, w, fr, tr, g, re, fi, ro, im, r, pk, cz, lh, lp, se, md, ff, now, before, chg, th, row, comes, layer, rounds, value, place, places, made, lq, left, gone, vo, hI, hP, hD⟩ := hw
  obtain ⟨hlt, hL, C0, hK, hN, hX, hNc⟩ := C
  obtain ⟨hx, hb, hr, hml, hown, hts0, hX9, hbl, hlocks, hgv⟩ := C0
  have hts : ∀ w ∈ wsL_law, w.before #[Value.ref sb] s = true := fun w h => hts0 w (zL_law w h)
  have hown : s.vm.findClass RL = some m.cls := hown
  have hA9 : ∀ q : Nat, s.heap.size ≤ q → (fun q : Nat => s.heap.size ≤ q) q := fun _ h => h
  have hbA : ¬ (fun q : Nat => s.heap.size ≤ q) sb := Nat.not_le.mpr hbl
  have hc0 : ce ≤ room_1.cells := by show ce ≤ 601024; omega
  have hs0 : sl ≤ room_1.slots := by show sl ≤ 7293034; omega
  have hc1 : ce + 2 ≤ room_1.cells := by show ce + 2 ≤ 601024; omega
  have hs1 : sl + 12 ≤ room_1.slots := by show sl + 12 ≤ 7293034; omega
  refine lv_aload_n hx hb dL_law_1923 rfl (lv_at hl 1 rfl) ?_
  refine lv_aload_n hx hb dL_law_1924 rfl (lv_at hl 0 rfl) ?_
  refine lv_iload hx hb dL_law_1925 (lv_at hl 4 rfl) ?_
  refine lv_iconst (v := (1 : Int32)) hx hb dL_law_1927 (by decide) ?_
  refine lv_iadd hx hb dL_law_1928 ?_
  refine va_sld hx hb hX9 hbl hbA hS (zin_L hi hL hiI 1 (by decide) (1 : Int32) rfl) dL_law_1929 ?_
  refine lv_topi (fun x1 ex1 => ?_)
  refine lv_aload_n hx hb dL_law_1930 rfl (lv_at hl 0 rfl) ?_
  refine lv_iload hx hb dL_law_1931 (lv_at hl 4 rfl) ?_
  refine lv_iconst (v := (2 : Int32)) hx hb dL_law_1933 (by decide) ?_
  refine lv_iadd hx hb dL_law_1934 ?_
  refine va_sld hx hb hX9 hbl hbA hS (zin_L hi hL hiI 2 (by decide) (2 : Int32) rfl) dL_law_1935 ?_
  refine lv_topi (fun x2 ex2 => ?_)
  refine lv_aload_n hx hb dL_law_1936 rfl (lv_at hl 0 rfl) ?_
  refine lv_iload hx hb dL_law_1937 (lv_at hl 4 rfl) ?_
  refine lv_iconst (v := (3 : Int32)) hx hb dL_law_1939 (by decide) ?_
  refine lv_iadd hx hb dL_law_1940 ?_
  refine va_sld hx hb hX9 hbl hbA hS (zin_L hi hL hiI 3 (by decide) (3 : Int32) rfl) dL_law_1941 ?_
  refine lv_topi (fun x3 ex3 => ?_)
  refine lv_aload_n hx hb dL_law_1942 rfl (lv_at hl 0 rfl) ?_
  refine lv_iload hx hb dL_law_1943 (lv_at hl 4 rfl) ?_
  refine lv_iconst (v := (4 : Int32)) hx hb dL_law_1945 (by decide) ?_
  refine lv_iadd hx hb dL_law_1946 ?_
  refine va_sld hx hb hX9 hbl hbA hS (zin_L hi hL hiI 4 (by decide) (4 : Int32) rfl) dL_law_1947 ?_
  refine lv_topi (fun x4 ex4 => ?_)
  refine lv_aload_n hx hb dL_law_1948 rfl (lv_at hl 0 rfl) ?_
  refine lv_iload hx hb dL_law_1949 (lv_at hl 4 rfl) ?_
  refine lv_iconst (v := (5 : Int32)) hx hb dL_law_1951 (by decide) ?_
  refine lv_iadd hx hb dL_law_1952 ?_
  refine va_sld hx hb hX9 hbl hbA hS (zin_L hi hL hiI 5 (by decide) (5 : Int32) rfl) dL_law_1953 ?_
  refine lv_topi (fun x5 ex5 => ?_)
  refine lv_aload_n hx hb dL_law_1954 rfl (lv_at hl 3 rfl) ?_
  obtain ⟨e, bb, q', w', fr', g', re', fi', ro', im', r', ff', value', place', places', e1, e2, hA, hI'⟩ := zI_seek K hK9 hI q fr x1 x2 x3 x4 x5 th place places
  unfold zapr zapg at e1
  refine z_callW (wc := (ao, zoc tt vo) :: wL tt a b d wd fa od hd qc qs bc bs tl rl H q w fr tr g re fi ro im r pk cz lh lp se md ff) (wr := wM tt c now before chg th row comes layer rounds value place places made lq left gone) (As := [.ref (a 0), .int x1, .int x2, .int x3, .int x4, .int x5, .ref ao]) (rest := []) ⟨hx, hb, hml, hown, hts⟩ hK hN hX hNc hP hD hS hA9 (mL_seek l G tt sa hlt H0.size K a b d wd fa od hd qc qs bc bs tl rl H q w fr tr g re fi ro im r pk cz lh lp se md ff x1 x2 x3 x4 x5 ao vo _ e1 bb hA) (vx_cwSW 7 hts gL_law_L_seek rfl rfl rfl (by decide +kernel) ⟨Nat.le_of_ble_eq_true rfl, Nat.le_of_ble_eq_true rfl⟩) rfl hl.1 rfl (Nat.le_of_ble_eq_true rfl) dL_law_1955 ⟨hc1, hs1⟩ (fun rr u H0 locs hw hP hD hS => ?_)
  obtain ⟨hw1, hw2⟩ := hw
  replace hw1 := hw1.symm; subst hw1
  replace hw2 := hw2.symm; subst hw2
  have hP : va_P G vwCl (wM tt c now before chg th row comes layer rounds value place places made lq left gone ++ ((ao, zoc tt (zout Int32.toInt64 vo e)) :: wL tt a b d wd fa od hd qc qs bc bs tl rl H q' w' fr' tr g' re' fi' ro' im' r' pk cz lh lp se md ff')) H0 := hP
  have hD : va_D (fun q : Nat => s.heap.size ≤ q) (wM tt c now before chg th row comes layer rounds value place places made lq left gone ++ ((ao, zoc tt (zout Int32.toInt64 vo e)) :: wL tt a b d wd fa od hd qc qs bc bs tl rl H q' w' fr' tr g' re' fi' ro' im' r' pk cz lh lp se md ff')) := hD
  refine lv_istore (lv' := [(5, .int bb.2), (0, .ref sb), (1, .ref (a 0)), (2, .ref (c 0)), (3, .ref ao), (4, .int iI)]) hx hb dL_law_1958 hl (by decide) rfl (fun ls hl => ?_)
  refine lv_aload_n hx hb dL_law_1960 rfl (lv_at hl 3 rfl) ?_
  refine lv_aload_n hx hb dL_law_1961 rfl (lv_at hl 1 rfl) ?_
  refine lv_iload hx hb dL_law_1962 (lv_at hl 5 rfl) ?_
  refine lv_iconst (v := (1 : Int32)) hx hb dL_law_1964 (by decide) ?_
  refine lv_iadd hx hb dL_law_1965 ?_
  refine va_sld hx hb hX9 hbl hbA hS (zin_L hi hL hiI 1 (by decide) (1 : Int32) rfl) dL_law_1966 ?_
  refine lv_topi (fun x6 ex6 => ?_)
  obtain rfl : x6 = x1 := ex6.trans ex1.symm
  refine lv_aload_n hx hb dL_law_1967 rfl (lv_at hl 1 rfl) ?_
  refine lv_iload hx hb dL_law_1968 (lv_at hl 5 rfl) ?_
  refine lv_iconst (v := (2 : Int32)) hx hb dL_law_1970 (by decide) ?_
  refine lv_iadd hx hb dL_law_1971 ?_
  refine va_sld hx hb hX9 hbl hbA hS (zin_L hi hL hiI 2 (by decide) (2 : Int32) rfl) dL_law_1972 ?_
  refine lv_topi (fun x7 ex7 => ?_)
  obtain rfl : x7 = x2 := ex7.trans ex2.symm
  refine lv_aload_n hx hb dL_law_1973 rfl (lv_at hl 1 rfl) ?_
  refine lv_iload hx hb dL_law_1974 (lv_at hl 5 rfl) ?_
  refine lv_iconst (v := (3 : Int32)) hx hb dL_law_1976 (by decide) ?_
  refine lv_iadd hx hb dL_law_1977 ?_
  refine va_sld hx hb hX9 hbl hbA hS (zin_L hi hL hiI 3 (by decide) (3 : Int32) rfl) dL_law_1978 ?_
  refine lv_topi (fun x8 ex8 => ?_)
  obtain rfl : x8 = x3 := ex8.trans ex3.symm
  refine lv_aload_n hx hb dL_law_1979 rfl (lv_at hl 1 rfl) ?_
  refine lv_iload hx hb dL_law_1980 (lv_at hl 5 rfl) ?_
  refine lv_iconst (v := (4 : Int32)) hx hb dL_law_1982 (by decide) ?_
  refine lv_iadd hx hb dL_law_1983 ?_
  refine va_sld hx hb hX9 hbl hbA hS (zin_L hi hL hiI 4 (by decide) (4 : Int32) rfl) dL_law_1984 ?_
  refine lv_topi (fun x9 ex9 => ?_)
  obtain rfl : x9 = x4 := ex9.trans ex4.symm
  refine lv_aload_n hx hb dL_law_1985 rfl (lv_at hl 1 rfl) ?_
  refine lv_iload hx hb dL_law_1986 (lv_at hl 5 rfl) ?_
  refine lv_iconst (v := (5 : Int32)) hx hb dL_law_1988 (by decide) ?_
  refine lv_iadd hx hb dL_law_1989 ?_
  refine va_sld hx hb hX9 hbl hbA hS (zin_L hi hL hiI 5 (by decide) (5 : Int32) rfl) dL_law_1990 ?_
  refine lv_topi (fun x10 ex10 => ?_)
  obtain rfl : x10 = x5 := ex10.trans ex5.symm
  refine z_callVi (wc := wM tt c now before chg th row comes layer rounds value place places made lq left gone) (wr := (ao, zoc tt (zout Int32.toInt64 vo e)) :: wL tt a b d wd fa od hd qc qs bc bs tl rl H q' w' fr' tr g' re' fi' ro' im' r' pk cz lh lp se md ff') (As := [.int x6, .int x7, .int x8, .int x9, .int x10]) (rest := []) (ci := 11) ⟨hx, hb, hml, hown, hts⟩ hK hN hP hD hS hA9 (nX12_seek l G tt H0.size K c now before chg th row comes layer rounds value place places made lq left gone x6 x7 x8 x9 x10 _ e2) (cwV 5 hts gL_law_X12_seek rfl rfl rfl (by decide +kernel) ⟨Nat.le_of_ble_eq_true rfl, Nat.le_of_ble_eq_true rfl⟩) rfl rfl rfl hl.1 rfl (Nat.le_of_ble_eq_true rfl) dL_law_1991 ⟨hc1, hs1⟩ (fun rr u H0 locs hw hP hD hS => ?_)
  obtain ⟨hw1, hw2⟩ := hw
  replace hw1 := hw1.symm; subst hw1
  replace hw2 := hw2.symm; subst hw2
  have hP : va_P G vwCl (((ao, zoc tt (zout Int32.toInt64 vo e)) :: wL tt a b d wd fa od hd qc qs bc bs tl rl H q' w' fr' tr g' re' fi' ro' im' r' pk cz lh lp se md ff') ++ wM tt c now before chg bb.2 row comes layer rounds value' place' places' made lq left gone) H0 := hP
  have hD : va_D (fun q : Nat => s.heap.size ≤ q) (((ao, zoc tt (zout Int32.toInt64 vo e)) :: wL tt a b d wd fa od hd qc qs bc bs tl rl H q' w' fr' tr g' re' fi' ro' im' r' pk cz lh lp se md ff') ++ wM tt c now before chg bb.2 row comes layer rounds value' place' places' made lq left gone) := hD
  refine lv_istore (lv' := [(6, .int bb.1), (5, .int bb.2), (0, .ref sb), (1, .ref (a 0)), (2, .ref (c 0)), (3, .ref ao), (4, .int iI)]) hx hb dL_law_1994 hl (by decide) rfl (fun ls hl => ?_)
  refine lv_aload_n hx hb dL_law_1996 rfl (lv_at hl 4 rfl) ?_
  have hP := zP_perm (List.perm_append_comm (l₁ := (ao, zoc tt (zout Int32.toInt64 vo e)) :: wL tt a b d wd fa od hd qc qs bc bs tl rl H q' w' fr' tr g' re' fi' ro' im' r' pk cz lh lp se md ff') (l₂ := wM tt c now before chg bb.2 row comes layer rounds value' place' places' made lq left gone)) hP
  have hD := zD_perm (List.perm_append_comm (l₁ := (ao, zoc tt (zout Int32.toInt64 vo e)) :: wL tt a b d wd fa od hd qc qs bc bs tl rl H q' w' fr' tr g' re' fi' ro' im' r' pk cz lh lp se md ff') (l₂ := wM tt c now before chg bb.2 row comes layer rounds value' place' places' made lq left gone)) hD
  refine z_callVi (wc := wM tt c now before chg bb.2 row comes layer rounds value' place' places' made lq left gone) (wr := (ao, zoc tt (zout Int32.toInt64 vo e)) :: wL tt a b d wd fa od hd qc qs bc bs tl rl H q' w' fr' tr g' re' fi' ro' im' r' pk cz lh lp se md ff') (As := []) (rest := []) (ci := 11) ⟨hx, hb, hml, hown, hts⟩ hK hN hP hD hS hA9 (nX12_thrown l G tt H0.size c now before chg bb.2 row comes layer rounds value' place' places' made lq left gone bb.2 rfl) (cwV 0 hts gL_law_X12_thrown rfl rfl rfl (by decide +kernel) ⟨Nat.le_of_ble_eq_true rfl, Nat.le_of_ble_eq_true rfl⟩) rfl rfl rfl hl.1 rfl (Nat.le_of_ble_eq_true rfl) dL_law_1997 ⟨hc1, hs1⟩ (fun rr u H0 locs hw hP hD hS => ?_)
  replace hw := hw.symm; subst hw
  have hP : va_P G vwCl (((ao, zoc tt (zout Int32.toInt64 vo e)) :: wL tt a b d wd fa od hd qc qs bc bs tl rl H q' w' fr' tr g' re' fi' ro' im' r' pk cz lh lp se md ff') ++ wM tt c now before chg bb.2 row comes layer rounds value' place' places' made lq left gone) H0 := hP
  have hD : va_D (fun q : Nat => s.heap.size ≤ q) (((ao, zoc tt (zout Int32.toInt64 vo e)) :: wL tt a b d wd fa od hd qc qs bc bs tl rl H q' w' fr' tr g' re' fi' ro' im' r' pk cz lh lp se md ff') ++ wM tt c now before chg bb.2 row comes layer rounds value' place' places' made lq left gone) := hD
  refine lv_iload hx hb dL_law_2000 (lv_at hl 1 rfl) ?_
  refine lv_icmp_eq (tgt := 2007) hx hb dL_law_2002 (by decide) (fun _ => ?_) (fun h9 => absurd rfl h9)
  refine lv_iload hx hb dL_law_2007 (lv_at hl 1 rfl) ?_
  rcases hA with ⟨k9, hk9, ek, rfl⟩ | ⟨v9, ev, rfl⟩
  · refine lv_if_ne (tgt := 2024) hx hb dL_law_2009 (by decide) (fun _ => ?_) (fun h9 => absurd h9 (fun h => zcd_ne k9 h))
    refine lv_goto (tgt := 2784) hx hb dL_law_2024 (by decide) ?_
    refine z_widen (k := ce + 4) (n := sl + 24) (by omega) (by omega) ?_
    exact kk H0 locs ls ⟨wd, fa, od, hd, qc, qs, bc, bs, tl, rl, H, q', w', fr', tr, g', re', fi', ro', im', r', pk, cz, lh, lp, se, md, ff', now, before, chg, _, row, comes, layer, rounds, value', place', places', made, lq, left, gone, (zout Int32.toInt64 vo e), hI', hP, hD⟩ hS (lv_sub hl [2, 3, 4, 5, 6] rfl)
  · refine lv_if_ne (tgt := 2024) hx hb dL_law_2009 (by decide) (fun h9 => absurd rfl h9) (fun _ => ?_)
    refine lv_aload_n hx hb dL_law_2012 rfl (lv_at hl 5 rfl) ?_
    refine lv_iconst (v := (0 : Int32)) hx hb dL_law_2013 (by decide) ?_
    refine va_lald hx hb hK hP 0 1 rfl rfl (inB_vp (by decide)) dL_law_2014 ?_
    refine lv_iload hx hb dL_law_2015 (lv_at hl 0 rfl) ?_
    refine lv_i2l hx hb dL_law_2017 rfl ?_
    refine W.lcmp hx hb dL_law_2018 ?_
    refine lv_if_eq (tgt := 2024) hx hb dL_law_2019 (by decide) (fun _ => ?_) (fun h9 => absurd ((lg_cmp_eq _ _).mpr (by subst ev; exact (zout_at Int32.toInt64 vo v9))) h9)
    refine lv_goto (tgt := 2784) hx hb dL_law_2024 (by decide) ?_
    refine z_widen (k := ce + 4) (n := sl + 24) (by omega) (by omega) ?_
    exact kk H0 locs ls ⟨wd, fa, od, hd, qc, qs, bc, bs, tl, rl, H, q', w', fr', tr, g', re', fi', ro', im', r', pk, cz, lh, lp, se, md, ff', now, before, chg, _, row, comes, layer, rounds, value', place', places', made, lq, left, gone, (zout Int32.toInt64 vo e), hI', hP, hD⟩ hS (lv_sub hl [2, 3, 4, 5, 6] rfl)

set_option maxHeartbeats 4000000 in
set_option maxRecDepth 100000 in
theorem zarm_leaps (K : Nat) (hK9 : 1000000 < K) {p : Program} {l : Launch} {e0 : Env} {s : State} {m : MethodId} {below : List Frame} {meth : Method} {cd : Code} {sb L : Nat} {xs : Nat → Int32} {G : va_G} {tt : Nat → ClassId} {sa : Nat → Nat} (C : zCtx p l s m meth cd sb L xs G tt sa) (a : Nat → Nat) (b : Nat → Nat → Nat) (d : Nat → Nat → Nat → Nat) (c : Nat → Nat) (ao : Nat) {i : Nat} {iI : Int32} (hi : i + 7 ≤ L) (hiI : iI = nI i) {ce sl : Nat} (hce : ce ≤ 600000) (hsl : sl ≤ 7290000) {H0 : Heap} {locs : List Loc} (hw : zWorld G tt a b d c ao (fun q : Nat => s.heap.size ≤ q) H0) (hS : va_S (fun q : Nat => s.heap.size ≤ q) s.heap H0 locs) {ls : Array Slot} (hl : lv_has ls 9 [(0, .ref sb), (1, .ref (a 0)), (2, .ref (c 0)), (3, .ref ao), (4, .int iI)])
    (kk : ∀ (H1 : Heap) (locs1 : List Loc) (ls1 : Array Slot), zWorld G tt a b d c ao (fun q : Nat => s.heap.size ≤ q) H1 → va_S (fun q : Nat => s.heap.size ≤ q) s.heap H1 locs1 → lv_has ls1 9 [(0, .ref sb), (1, .ref (a 0)), (2, .ref (c 0)), (3, .ref ao), (4, .int iI)] → W p l e0 room_1 s m #[Value.ref sb] below meth cd H1 locs1 (ce + 4) (sl + 24) (lw_Z below #[Value.ref sb] s) (F0 m 2784 ls1 [])) :
    W p l e0 room_1 s m #[Value.ref sb] below meth cd H0 locs ce sl (lw_Z below #[Value.ref sb] s) (F0 m 2027 ls []) := by
  obtain ⟨wd, fa, od, hd, qc, qs, bc, bs, tl, rl, H, q, w, fr, tr, g, re, fi, ro, im, r, pk, cz, lh, lp, se, md, ff, now, before, chg, th, row, comes, layer, rounds, value, place, places, made, lq, left, gone, vo, hI, hP, hD⟩ := hw
  obtain ⟨hlt, hL, C0, hK, hN, hX, hNc⟩ := C
  obtain ⟨hx, hb, hr, hml, hown, hts0, hX9, hbl, hlocks, hgv⟩ := C0
  have hts : ∀ w ∈ wsL_law, w.before #[Value.ref sb] s = true := fun w h => hts0 w (zL_law w h)
  have hown : s.vm.findClass RL = some m.cls := hown
  have hA9 : ∀ q : Nat, s.heap.size ≤ q → (fun q : Nat => s.heap.size ≤ q) q := fun _ h => h
  have hbA : ¬ (fun q : Nat => s.heap.size ≤ q) sb := Nat.not_le.mpr hbl
  have hc0 : ce ≤ room_1.cells := by show ce ≤ 601024; omega
  have hs0 : sl ≤ room_1.slots := by show sl ≤ 7293034; omega
  have hc1 : ce + 1 ≤ room_1.cells := by show ce + 1 ≤ 601024; omega
  have hs1 : sl + 6 ≤ room_1.slots := by show sl + 6 ≤ 7293034; omega
  refine lv_aload_n hx hb dL_law_2027 rfl (lv_at hl 1 rfl) ?_
  refine lv_aload_n hx hb dL_law_2028 rfl (lv_at hl 0 rfl) ?_
  refine lv_iload hx hb dL_law_2029 (lv_at hl 4 rfl) ?_
  refine lv_iconst (v := (1 : Int32)) hx hb dL_law_2031 (by decide) ?_
  refine lv_iadd hx hb dL_law_2032 ?_
  refine va_sld hx hb hX9 hbl hbA hS (zin_L hi hL hiI 1 (by decide) (1 : Int32) rfl) dL_law_2033 ?_
  refine lv_topi (fun x1 ex1 => ?_)
  refine lv_aload_n hx hb dL_law_2034 rfl (lv_at hl 3 rfl) ?_
  obtain ⟨e, bb, q', w', fr', g', re', fi', ro', im', r', ff', value', place', places', lp', e1, e2, hA, hI'⟩ := zI_leaps K hK9 hI q fr x1 th place places lq
  unfold zapr zapg at e1
  refine z_callW (wc := (ao, zoc tt vo) :: wL tt a b d wd fa od hd qc qs bc bs tl rl H q w fr tr g re fi ro im r pk cz lh lp se md ff) (wr := wM tt c now before chg th row comes layer rounds value place places made lq left gone) (As := [.ref (a 0), .int x1, .ref ao]) (rest := []) ⟨hx, hb, hml, hown, hts⟩ hK hN hX hNc hP hD hS hA9 (mL_leaps l G tt sa hlt H0.size K a b d wd fa od hd qc qs bc bs tl rl H q w fr tr g re fi ro im r pk cz lh lp se md ff x1 ao vo _ e1 bb hA) (vx_cwSW 3 hts gL_law_L_leaps rfl rfl rfl (by decide +kernel) ⟨Nat.le_of_ble_eq_true rfl, Nat.le_of_ble_eq_true rfl⟩) rfl hl.1 rfl (Nat.le_of_ble_eq_true rfl) dL_law_2035 ⟨hc1, hs1⟩ (fun rr u H0 locs hw hP hD hS => ?_)
  obtain ⟨hw1, hw2⟩ := hw
  replace hw1 := hw1.symm; subst hw1
  replace hw2 := hw2.symm; subst hw2
  have hP : va_P G vwCl (wM tt c now before chg th row comes layer rounds value place places made lq left gone ++ ((ao, zoc tt (zout Int32.toInt64 vo e)) :: wL tt a b d wd fa od hd qc qs bc bs tl rl H q' w' fr' tr g' re' fi' ro' im' r' pk cz lh lp se md ff')) H0 := hP
  have hD : va_D (fun q : Nat => s.heap.size ≤ q) (wM tt c now before chg th row comes layer rounds value place places made lq left gone ++ ((ao, zoc tt (zout Int32.toInt64 vo e)) :: wL tt a b d wd fa od hd qc qs bc bs tl rl H q' w' fr' tr g' re' fi' ro' im' r' pk cz lh lp se md ff')) := hD
  refine lv_istore (lv' := [(5, .int bb.2), (0, .ref sb), (1, .ref (a 0)), (2, .ref (c 0)), (3, .ref ao), (4, .int iI)]) hx hb dL_law_2038 hl (by decide) rfl (fun ls hl => ?_)
  refine lv_aload_n hx hb dL_law_2040 rfl (lv_at hl 3 rfl) ?_
  refine lv_aload_n hx hb dL_law_2041 rfl (lv_at hl 1 rfl) ?_
  refine lv_iload hx hb dL_law_2042 (lv_at hl 5 rfl) ?_
  refine lv_iconst (v := (1 : Int32)) hx hb dL_law_2044 (by decide) ?_
  refine lv_iadd hx hb dL_law_2045 ?_
  refine va_sld hx hb hX9 hbl hbA hS (zin_L hi hL hiI 1 (by decide) (1 : Int32) rfl) dL_law_2046 ?_
  refine lv_topi (fun x2 ex2 => ?_)
  obtain rfl : x2 = x1 := ex2.trans ex1.symm
  refine z_callVi (wc := wM tt c now before chg th row comes layer rounds value place places made lq left gone) (wr := (ao, zoc tt (zout Int32.toInt64 vo e)) :: wL tt a b d wd fa od hd qc qs bc bs tl rl H q' w' fr' tr g' re' fi' ro' im' r' pk cz lh lp se md ff') (As := [.int x2]) (rest := []) (ci := 11) ⟨hx, hb, hml, hown, hts⟩ hK hN hP hD hS hA9 (nX12_leaps_ l G tt H0.size K c now before chg th row comes layer rounds value place places made lq left gone x2 _ e2) (cwV 1 hts gL_law_X12_leaps_ rfl rfl rfl (by decide +kernel) ⟨Nat.le_of_ble_eq_true rfl, Nat.le_of_ble_eq_true rfl⟩) rfl rfl rfl hl.1 rfl (Nat.le_of_ble_eq_true rfl) dL_law_2047 ⟨hc1, hs1⟩ (fun rr u H0 locs hw hP hD hS => ?_)
  obtain ⟨hw1, hw2⟩ := hw
  replace hw1 := hw1.symm; subst hw1
  replace hw2 := hw2.symm; subst hw2
  have hP : va_P G vwCl (((ao, zoc tt (zout Int32.toInt64 vo e)) :: wL tt a b d wd fa od hd qc qs bc bs tl rl H q' w' fr' tr g' re' fi' ro' im' r' pk cz lh lp se md ff') ++ wM tt c now before chg bb.2 row comes layer rounds value' place' places' made lp' left gone) H0 := hP
  have hD : va_D (fun q : Nat => s.heap.size ≤ q) (((ao, zoc tt (zout Int32.toInt64 vo e)) :: wL tt a b d wd fa od hd qc qs bc bs tl rl H q' w' fr' tr g' re' fi' ro' im' r' pk cz lh lp se md ff') ++ wM tt c now before chg bb.2 row comes layer rounds value' place' places' made lp' left gone) := hD
  refine lv_istore (lv' := [(6, .int bb.1), (5, .int bb.2), (0, .ref sb), (1, .ref (a 0)), (2, .ref (c 0)), (3, .ref ao), (4, .int iI)]) hx hb dL_law_2050 hl (by decide) rfl (fun ls hl => ?_)
  refine lv_aload_n hx hb dL_law_2052 rfl (lv_at hl 4 rfl) ?_
  have hP := zP_perm (List.perm_append_comm (l₁ := (ao, zoc tt (zout Int32.toInt64 vo e)) :: wL tt a b d wd fa od hd qc qs bc bs tl rl H q' w' fr' tr g' re' fi' ro' im' r' pk cz lh lp se md ff') (l₂ := wM tt c now before chg bb.2 row comes layer rounds value' place' places' made lp' left gone)) hP
  have hD := zD_perm (List.perm_append_comm (l₁ := (ao, zoc tt (zout Int32.toInt64 vo e)) :: wL tt a b d wd fa od hd qc qs bc bs tl rl H q' w' fr' tr g' re' fi' ro' im' r' pk cz lh lp se md ff') (l₂ := wM tt c now before chg bb.2 row comes layer rounds value' place' places' made lp' left gone)) hD
  refine z_callVi (wc := wM tt c now before chg bb.2 row comes layer rounds value' place' places' made lp' left gone) (wr := (ao, zoc tt (zout Int32.toInt64 vo e)) :: wL tt a b d wd fa od hd qc qs bc bs tl rl H q' w' fr' tr g' re' fi' ro' im' r' pk cz lh lp se md ff') (As := []) (rest := []) (ci := 11) ⟨hx, hb, hml, hown, hts⟩ hK hN hP hD hS hA9 (nX12_thrown l G tt H0.size c now before chg bb.2 row comes layer rounds value' place' places' made lp' left gone bb.2 rfl) (cwV 0 hts gL_law_X12_thrown rfl rfl rfl (by decide +kernel) ⟨Nat.le_of_ble_eq_true rfl, Nat.le_of_ble_eq_true rfl⟩) rfl rfl rfl hl.1 rfl (Nat.le_of_ble_eq_true rfl) dL_law_2053 ⟨hc1, hs1⟩ (fun rr u H0 locs hw hP hD hS => ?_)
  replace hw := hw.symm; subst hw
  have hP : va_P G vwCl (((ao, zoc tt (zout Int32.toInt64 vo e)) :: wL tt a b d wd fa od hd qc qs bc bs tl rl H q' w' fr' tr g' re' fi' ro' im' r' pk cz lh lp se md ff') ++ wM tt c now before chg bb.2 row comes layer rounds value' place' places' made lp' left gone) H0 := hP
  have hD : va_D (fun q : Nat => s.heap.size ≤ q) (((ao, zoc tt (zout Int32.toInt64 vo e)) :: wL tt a b d wd fa od hd qc qs bc bs tl rl H q' w' fr' tr g' re' fi' ro' im' r' pk cz lh lp se md ff') ++ wM tt c now before chg bb.2 row comes layer rounds value' place' places' made lp' left gone) := hD
  refine lv_iload hx hb dL_law_2056 (lv_at hl 1 rfl) ?_
  refine lv_icmp_eq (tgt := 2063) hx hb dL_law_2058 (by decide) (fun _ => ?_) (fun h9 => absurd rfl h9)
  refine lv_iload hx hb dL_law_2063 (lv_at hl 1 rfl) ?_
  rcases hA with ⟨k9, hk9, ek, rfl⟩ | ⟨v9, ev, rfl⟩
  · refine lv_if_ne (tgt := 2080) hx hb dL_law_2065 (by decide) (fun _ => ?_) (fun h9 => absurd h9 (fun h => zcd_ne k9 h))
    refine lv_goto (tgt := 2784) hx hb dL_law_2080 (by decide) ?_
    refine z_widen (k := ce + 4) (n := sl + 24) (by omega) (by omega) ?_
    exact kk H0 locs ls ⟨wd, fa, od, hd, qc, qs, bc, bs, tl, rl, H, q', w', fr', tr, g', re', fi', ro', im', r', pk, cz, lh, lp, se, md, ff', now, before, chg, _, row, comes, layer, rounds, value', place', places', made, lp', left, gone, (zout Int32.toInt64 vo e), hI', hP, hD⟩ hS (lv_sub hl [2, 3, 4, 5, 6] rfl)
  · refine lv_if_ne (tgt := 2080) hx hb dL_law_2065 (by decide) (fun h9 => absurd rfl h9) (fun _ => ?_)
    refine lv_aload_n hx hb dL_law_2068 rfl (lv_at hl 5 rfl) ?_
    refine lv_iconst (v := (0 : Int32)) hx hb dL_law_2069 (by decide) ?_
    refine va_lald hx hb hK hP 0 1 rfl rfl (inB_vp (by decide)) dL_law_2070 ?_
    refine lv_iload hx hb dL_law_2071 (lv_at hl 0 rfl) ?_
    refine lv_i2l hx hb dL_law_2073 rfl ?_
    refine W.lcmp hx hb dL_law_2074 ?_
    refine lv_if_eq (tgt := 2080) hx hb dL_law_2075 (by decide) (fun _ => ?_) (fun h9 => absurd ((lg_cmp_eq _ _).mpr (by subst ev; exact (zout_at Int32.toInt64 vo v9))) h9)
    refine lv_goto (tgt := 2784) hx hb dL_law_2080 (by decide) ?_
    refine z_widen (k := ce + 4) (n := sl + 24) (by omega) (by omega) ?_
    exact kk H0 locs ls ⟨wd, fa, od, hd, qc, qs, bc, bs, tl, rl, H, q', w', fr', tr, g', re', fi', ro', im', r', pk, cz, lh, lp, se, md, ff', now, before, chg, _, row, comes, layer, rounds, value', place', places', made, lp', left, gone, (zout Int32.toInt64 vo e), hI', hP, hD⟩ hS (lv_sub hl [2, 3, 4, 5, 6] rfl)

set_option maxHeartbeats 4000000 in
set_option maxRecDepth 100000 in
theorem zarm_groups (K : Nat) (hK9 : 1000000 < K) {p : Program} {l : Launch} {e0 : Env} {s : State} {m : MethodId} {below : List Frame} {meth : Method} {cd : Code} {sb L : Nat} {xs : Nat → Int32} {G : va_G} {tt : Nat → ClassId} {sa : Nat → Nat} (C : zCtx p l s m meth cd sb L xs G tt sa) (a : Nat → Nat) (b : Nat → Nat → Nat) (d : Nat → Nat → Nat → Nat) (c : Nat → Nat) (ao : Nat) {i : Nat} {iI : Int32} (hi : i + 7 ≤ L) (hiI : iI = nI i) {ce sl : Nat} (hce : ce ≤ 600000) (hsl : sl ≤ 7290000) {H0 : Heap} {locs : List Loc} (hw : zWorld G tt a b d c ao (fun q : Nat => s.heap.size ≤ q) H0) (hS : va_S (fun q : Nat => s.heap.size ≤ q) s.heap H0 locs) {ls : Array Slot} (hl : lv_has ls 9 [(0, .ref sb), (1, .ref (a 0)), (2, .ref (c 0)), (3, .ref ao), (4, .int iI)])
    (kk : ∀ (H1 : Heap) (locs1 : List Loc) (ls1 : Array Slot), zWorld G tt a b d c ao (fun q : Nat => s.heap.size ≤ q) H1 → va_S (fun q : Nat => s.heap.size ≤ q) s.heap H1 locs1 → lv_has ls1 9 [(0, .ref sb), (1, .ref (a 0)), (2, .ref (c 0)), (3, .ref ao), (4, .int iI)] → W p l e0 room_1 s m #[Value.ref sb] below meth cd H1 locs1 (ce + 4) (sl + 24) (lw_Z below #[Value.ref sb] s) (F0 m 2784 ls1 [])) :
    W p l e0 room_1 s m #[Value.ref sb] below meth cd H0 locs ce sl (lw_Z below #[Value.ref sb] s) (F0 m 2083 ls []) := by
  obtain ⟨wd, fa, od, hd, qc, qs, bc, bs, tl, rl, H, q, w, fr, tr, g, re, fi, ro, im, r, pk, cz, lh, lp, se, md, ff, now, before, chg, th, row, comes, layer, rounds, value, place, places, made, lq, left, gone, vo, hI, hP, hD⟩ := hw
  obtain ⟨hlt, hL, C0, hK, hN, hX, hNc⟩ := C
  obtain ⟨hx, hb, hr, hml, hown, hts0, hX9, hbl, hlocks, hgv⟩ := C0
  have hts : ∀ w ∈ wsL_law, w.before #[Value.ref sb] s = true := fun w h => hts0 w (zL_law w h)
  have hown : s.vm.findClass RL = some m.cls := hown
  have hA9 : ∀ q : Nat, s.heap.size ≤ q → (fun q : Nat => s.heap.size ≤ q) q := fun _ h => h
  have hbA : ¬ (fun q : Nat => s.heap.size ≤ q) sb := Nat.not_le.mpr hbl
  have hc0 : ce ≤ room_1.cells := by show ce ≤ 601024; omega
  have hs0 : sl ≤ room_1.slots := by show sl ≤ 7293034; omega
  have hc1 : ce + 2 ≤ room_1.cells := by show ce + 2 ≤ 601024; omega
  have hs1 : sl + 12 ≤ room_1.slots := by show sl + 12 ≤ 7293034; omega
  refine lv_aload_n hx hb dL_law_2083 rfl (lv_at hl 1 rfl) ?_
  refine lv_aload_n hx hb dL_law_2084 rfl (lv_at hl 0 rfl) ?_
  refine lv_iload hx hb dL_law_2085 (lv_at hl 4 rfl) ?_
  refine lv_iconst (v := (1 : Int32)) hx hb dL_law_2087 (by decide) ?_
  refine lv_iadd hx hb dL_law_2088 ?_
  refine va_sld hx hb hX9 hbl hbA hS (zin_L hi hL hiI 1 (by decide) (1 : Int32) rfl) dL_law_2089 ?_
  refine lv_topi (fun x1 ex1 => ?_)
  refine lv_aload_n hx hb dL_law_2090 rfl (lv_at hl 0 rfl) ?_
  refine lv_iload hx hb dL_law_2091 (lv_at hl 4 rfl) ?_
  refine lv_iconst (v := (2 : Int32)) hx hb dL_law_2093 (by decide) ?_
  refine lv_iadd hx hb dL_law_2094 ?_
  refine va_sld hx hb hX9 hbl hbA hS (zin_L hi hL hiI 2 (by decide) (2 : Int32) rfl) dL_law_2095 ?_
  refine lv_topi (fun x2 ex2 => ?_)
  refine lv_aload_n hx hb dL_law_2096 rfl (lv_at hl 3 rfl) ?_
  obtain ⟨e, bb, q', w', fr', g', re', fi', ro', im', r', pk', ff', value', place', places', e1, e2, hA, hI'⟩ := zI_groups K hK9 hI q fr x1 x2 th pk place places
  unfold zapr zapg at e1
  refine z_callW (wc := (ao, zoc tt vo) :: wL tt a b d wd fa od hd qc qs bc bs tl rl H q w fr tr g re fi ro im r pk cz lh lp se md ff) (wr := wM tt c now before chg th row comes layer rounds value place places made lq left gone) (As := [.ref (a 0), .int x1, .int x2, .ref ao]) (rest := []) ⟨hx, hb, hml, hown, hts⟩ hK hN hX hNc hP hD hS hA9 (mL_groups l G tt sa hlt H0.size K a b d wd fa od hd qc qs bc bs tl rl H q w fr tr g re fi ro im r pk cz lh lp se md ff x1 x2 ao vo _ e1 bb hA) (vx_cwSW 4 hts gL_law_L_groups rfl rfl rfl (by decide +kernel) ⟨Nat.le_of_ble_eq_true rfl, Nat.le_of_ble_eq_true rfl⟩) rfl hl.1 rfl (Nat.le_of_ble_eq_true rfl) dL_law_2097 ⟨hc1, hs1⟩ (fun rr u H0 locs hw hP hD hS => ?_)
  obtain ⟨hw1, hw2⟩ := hw
  replace hw1 := hw1.symm; subst hw1
  replace hw2 := hw2.symm; subst hw2
  have hP : va_P G vwCl (wM tt c now before chg th row comes layer rounds value place places made lq left gone ++ ((ao, zoc tt (zout Int32.toInt64 vo e)) :: wL tt a b d wd fa od hd qc qs bc bs tl rl H q' w' fr' tr g' re' fi' ro' im' r' pk' cz lh lp se md ff')) H0 := hP
  have hD : va_D (fun q : Nat => s.heap.size ≤ q) (wM tt c now before chg th row comes layer rounds value place places made lq left gone ++ ((ao, zoc tt (zout Int32.toInt64 vo e)) :: wL tt a b d wd fa od hd qc qs bc bs tl rl H q' w' fr' tr g' re' fi' ro' im' r' pk' cz lh lp se md ff')) := hD
  refine lv_istore (lv' := [(5, .int bb.2), (0, .ref sb), (1, .ref (a 0)), (2, .ref (c 0)), (3, .ref ao), (4, .int iI)]) hx hb dL_law_2100 hl (by decide) rfl (fun ls hl => ?_)
  refine lv_aload_n hx hb dL_law_2102 rfl (lv_at hl 3 rfl) ?_
  refine lv_aload_n hx hb dL_law_2103 rfl (lv_at hl 1 rfl) ?_
  refine lv_iload hx hb dL_law_2104 (lv_at hl 5 rfl) ?_
  refine lv_iconst (v := (1 : Int32)) hx hb dL_law_2106 (by decide) ?_
  refine lv_iadd hx hb dL_law_2107 ?_
  refine va_sld hx hb hX9 hbl hbA hS (zin_L hi hL hiI 1 (by decide) (1 : Int32) rfl) dL_law_2108 ?_
  refine lv_topi (fun x3 ex3 => ?_)
  obtain rfl : x3 = x1 := ex3.trans ex1.symm
  refine lv_aload_n hx hb dL_law_2109 rfl (lv_at hl 1 rfl) ?_
  refine lv_iload hx hb dL_law_2110 (lv_at hl 5 rfl) ?_
  refine lv_iconst (v := (2 : Int32)) hx hb dL_law_2112 (by decide) ?_
  refine lv_iadd hx hb dL_law_2113 ?_
  refine va_sld hx hb hX9 hbl hbA hS (zin_L hi hL hiI 2 (by decide) (2 : Int32) rfl) dL_law_2114 ?_
  refine lv_topi (fun x4 ex4 => ?_)
  obtain rfl : x4 = x2 := ex4.trans ex2.symm
  refine z_callVi (wc := wM tt c now before chg th row comes layer rounds value place places made lq left gone) (wr := (ao, zoc tt (zout Int32.toInt64 vo e)) :: wL tt a b d wd fa od hd qc qs bc bs tl rl H q' w' fr' tr g' re' fi' ro' im' r' pk' cz lh lp se md ff') (As := [.int x3, .int x4]) (rest := []) (ci := 11) ⟨hx, hb, hml, hown, hts⟩ hK hN hP hD hS hA9 (nX12_groups l G tt H0.size K c now before chg th row comes layer rounds value place places made lq left gone x3 x4 _ e2) (cwV 2 hts gL_law_X12_groups rfl rfl rfl (by decide +kernel) ⟨Nat.le_of_ble_eq_true rfl, Nat.le_of_ble_eq_true rfl⟩) rfl rfl rfl hl.1 rfl (Nat.le_of_ble_eq_true rfl) dL_law_2115 ⟨hc1, hs1⟩ (fun rr u H0 locs hw hP hD hS => ?_)
  obtain ⟨hw1, hw2⟩ := hw
  replace hw1 := hw1.symm; subst hw1
  replace hw2 := hw2.symm; subst hw2
  have hP : va_P G vwCl (((ao, zoc tt (zout Int32.toInt64 vo e)) :: wL tt a b d wd fa od hd qc qs bc bs tl rl H q' w' fr' tr g' re' fi' ro' im' r' pk' cz lh lp se md ff') ++ wM tt c now before chg bb.2 row comes layer rounds value' place' places' made lq left gone) H0 := hP
  have hD : va_D (fun q : Nat => s.heap.size ≤ q) (((ao, zoc tt (zout Int32.toInt64 vo e)) :: wL tt a b d wd fa od hd qc qs bc bs tl rl H q' w' fr' tr g' re' fi' ro' im' r' pk' cz lh lp se md ff') ++ wM tt c now before chg bb.2 row comes layer rounds value' place' places' made lq left gone) := hD
  refine lv_istore (lv' := [(6, .int bb.1), (5, .int bb.2), (0, .ref sb), (1, .ref (a 0)), (2, .ref (c 0)), (3, .ref ao), (4, .int iI)]) hx hb dL_law_2118 hl (by decide) rfl (fun ls hl => ?_)
  refine lv_aload_n hx hb dL_law_2120 rfl (lv_at hl 4 rfl) ?_
  have hP := zP_perm (List.perm_append_comm (l₁ := (ao, zoc tt (zout Int32.toInt64 vo e)) :: wL tt a b d wd fa od hd qc qs bc bs tl rl H q' w' fr' tr g' re' fi' ro' im' r' pk' cz lh lp se md ff') (l₂ := wM tt c now before chg bb.2 row comes layer rounds value' place' places' made lq left gone)) hP
  have hD := zD_perm (List.perm_append_comm (l₁ := (ao, zoc tt (zout Int32.toInt64 vo e)) :: wL tt a b d wd fa od hd qc qs bc bs tl rl H q' w' fr' tr g' re' fi' ro' im' r' pk' cz lh lp se md ff') (l₂ := wM tt c now before chg bb.2 row comes layer rounds value' place' places' made lq left gone)) hD
  refine z_callVi (wc := wM tt c now before chg bb.2 row comes layer rounds value' place' places' made lq left gone) (wr := (ao, zoc tt (zout Int32.toInt64 vo e)) :: wL tt a b d wd fa od hd qc qs bc bs tl rl H q' w' fr' tr g' re' fi' ro' im' r' pk' cz lh lp se md ff') (As := []) (rest := []) (ci := 11) ⟨hx, hb, hml, hown, hts⟩ hK hN hP hD hS hA9 (nX12_thrown l G tt H0.size c now before chg bb.2 row comes layer rounds value' place' places' made lq left gone bb.2 rfl) (cwV 0 hts gL_law_X12_thrown rfl rfl rfl (by decide +kernel) ⟨Nat.le_of_ble_eq_true rfl, Nat.le_of_ble_eq_true rfl⟩) rfl rfl rfl hl.1 rfl (Nat.le_of_ble_eq_true rfl) dL_law_2121 ⟨hc1, hs1⟩ (fun rr u H0 locs hw hP hD hS => ?_)
  replace hw := hw.symm; subst hw
  have hP : va_P G vwCl (((ao, zoc tt (zout Int32.toInt64 vo e)) :: wL tt a b d wd fa od hd qc qs bc bs tl rl H q' w' fr' tr g' re' fi' ro' im' r' pk' cz lh lp se md ff') ++ wM tt c now before chg bb.2 row comes layer rounds value' place' places' made lq left gone) H0 := hP
  have hD : va_D (fun q : Nat => s.heap.size ≤ q) (((ao, zoc tt (zout Int32.toInt64 vo e)) :: wL tt a b d wd fa od hd qc qs bc bs tl rl H q' w' fr' tr g' re' fi' ro' im' r' pk' cz lh lp se md ff') ++ wM tt c now before chg bb.2 row comes layer rounds value' place' places' made lq left gone) := hD
  refine lv_iload hx hb dL_law_2124 (lv_at hl 1 rfl) ?_
  refine lv_icmp_eq (tgt := 2131) hx hb dL_law_2126 (by decide) (fun _ => ?_) (fun h9 => absurd rfl h9)
  refine lv_iload hx hb dL_law_2131 (lv_at hl 1 rfl) ?_
  rcases hA with ⟨k9, hk9, ek, rfl⟩ | ⟨v9, ev, rfl⟩
  · refine lv_if_ne (tgt := 2148) hx hb dL_law_2133 (by decide) (fun _ => ?_) (fun h9 => absurd h9 (fun h => zcd_ne k9 h))
    refine lv_goto (tgt := 2784) hx hb dL_law_2148 (by decide) ?_
    refine z_widen (k := ce + 4) (n := sl + 24) (by omega) (by omega) ?_
    exact kk H0 locs ls ⟨wd, fa, od, hd, qc, qs, bc, bs, tl, rl, H, q', w', fr', tr, g', re', fi', ro', im', r', pk', cz, lh, lp, se, md, ff', now, before, chg, _, row, comes, layer, rounds, value', place', places', made, lq, left, gone, (zout Int32.toInt64 vo e), hI', hP, hD⟩ hS (lv_sub hl [2, 3, 4, 5, 6] rfl)
  · refine lv_if_ne (tgt := 2148) hx hb dL_law_2133 (by decide) (fun h9 => absurd rfl h9) (fun _ => ?_)
    refine lv_aload_n hx hb dL_law_2136 rfl (lv_at hl 5 rfl) ?_
    refine lv_iconst (v := (0 : Int32)) hx hb dL_law_2137 (by decide) ?_
    refine va_lald hx hb hK hP 0 1 rfl rfl (inB_vp (by decide)) dL_law_2138 ?_
    refine lv_iload hx hb dL_law_2139 (lv_at hl 0 rfl) ?_
    refine lv_i2l hx hb dL_law_2141 rfl ?_
    refine W.lcmp hx hb dL_law_2142 ?_
    refine lv_if_eq (tgt := 2148) hx hb dL_law_2143 (by decide) (fun _ => ?_) (fun h9 => absurd ((lg_cmp_eq _ _).mpr (by subst ev; exact (zout_at Int32.toInt64 vo v9))) h9)
    refine lv_goto (tgt := 2784) hx hb dL_law_2148 (by decide) ?_
    refine z_widen (k := ce + 4) (n := sl + 24) (by omega) (by omega) ?_
    exact kk H0 locs ls ⟨wd, fa, od, hd, qc, qs, bc, bs, tl, rl, H, q', w', fr', tr, g', re', fi', ro', im', r', pk', cz, lh, lp, se, md, ff', now, before, chg, _, row, comes, layer, rounds, value', place', places', made, lq, left, gone, (zout Int32.toInt64 vo e), hI', hP, hD⟩ hS (lv_sub hl [2, 3, 4, 5, 6] rfl)

set_option maxHeartbeats 4000000 in
set_option maxRecDepth 100000 in
theorem zarm_groupSize (K : Nat) (hK9 : 1000000 < K) {p : Program} {l : Launch} {e0 : Env} {s : State} {m : MethodId} {below : List Frame} {meth : Method} {cd : Code} {sb L : Nat} {xs : Nat → Int32} {G : va_G} {tt : Nat → ClassId} {sa : Nat → Nat} (C : zCtx p l s m meth cd sb L xs G tt sa) (a : Nat → Nat) (b : Nat → Nat → Nat) (d : Nat → Nat → Nat → Nat) (c : Nat → Nat) (ao : Nat) {i : Nat} {iI : Int32} (hi : i + 7 ≤ L) (hiI : iI = nI i) {ce sl : Nat} (hce : ce ≤ 600000) (hsl : sl ≤ 7290000) {H0 : Heap} {locs : List Loc} (hw : zWorld G tt a b d c ao (fun q : Nat => s.heap.size ≤ q) H0) (hS : va_S (fun q : Nat => s.heap.size ≤ q) s.heap H0 locs) {ls : Array Slot} (hl : lv_has ls 9 [(0, .ref sb), (1, .ref (a 0)), (2, .ref (c 0)), (3, .ref ao), (4, .int iI)])
    (kk : ∀ (H1 : Heap) (locs1 : List Loc) (ls1 : Array Slot), zWorld G tt a b d c ao (fun q : Nat => s.heap.size ≤ q) H1 → va_S (fun q : Nat => s.heap.size ≤ q) s.heap H1 locs1 → lv_has ls1 9 [(0, .ref sb), (1, .ref (a 0)), (2, .ref (c 0)), (3, .ref ao), (4, .int iI)] → W p l e0 room_1 s m #[Value.ref sb] below meth cd H1 locs1 (ce + 4) (sl + 24) (lw_Z below #[Value.ref sb] s) (F0 m 2784 ls1 [])) :
    W p l e0 room_1 s m #[Value.ref sb] below meth cd H0 locs ce sl (lw_Z below #[Value.ref sb] s) (F0 m 2151 ls []) := by
  obtain ⟨wd, fa, od, hd, qc, qs, bc, bs, tl, rl, H, q, w, fr, tr, g, re, fi, ro, im, r, pk, cz, lh, lp, se, md, ff, now, before, chg, th, row, comes, layer, rounds, value, place, places, made, lq, left, gone, vo, hI, hP, hD⟩ := hw
  obtain ⟨hlt, hL, C0, hK, hN, hX, hNc⟩ := C
  obtain ⟨hx, hb, hr, hml, hown, hts0, hX9, hbl, hlocks, hgv⟩ := C0
  have hts : ∀ w ∈ wsL_law, w.before #[Value.ref sb] s = true := fun w h => hts0 w (zL_law w h)
  have hown : s.vm.findClass RL = some m.cls := hown
  have hA9 : ∀ q : Nat, s.heap.size ≤ q → (fun q : Nat => s.heap.size ≤ q) q := fun _ h => h
  have hbA : ¬ (fun q : Nat => s.heap.size ≤ q) sb := Nat.not_le.mpr hbl
  have hc0 : ce ≤ room_1.cells := by show ce ≤ 601024; omega
  have hs0 : sl ≤ room_1.slots := by show sl ≤ 7293034; omega
  have hc1 : ce + 3 ≤ room_1.cells := by show ce + 3 ≤ 601024; omega
  have hs1 : sl + 18 ≤ room_1.slots := by show sl + 18 ≤ 7293034; omega
  refine lv_aload_n hx hb dL_law_2151 rfl (lv_at hl 1 rfl) ?_
  refine lv_aload_n hx hb dL_law_2152 rfl (lv_at hl 0 rfl) ?_
  refine lv_iload hx hb dL_law_2153 (lv_at hl 4 rfl) ?_
  refine lv_iconst (v := (1 : Int32)) hx hb dL_law_2155 (by decide) ?_
  refine lv_iadd hx hb dL_law_2156 ?_
  refine va_sld hx hb hX9 hbl hbA hS (zin_L hi hL hiI 1 (by decide) (1 : Int32) rfl) dL_law_2157 ?_
  refine lv_topi (fun x1 ex1 => ?_)
  refine lv_aload_n hx hb dL_law_2158 rfl (lv_at hl 0 rfl) ?_
  refine lv_iload hx hb dL_law_2159 (lv_at hl 4 rfl) ?_
  refine lv_iconst (v := (2 : Int32)) hx hb dL_law_2161 (by decide) ?_
  refine lv_iadd hx hb dL_law_2162 ?_
  refine va_sld hx hb hX9 hbl hbA hS (zin_L hi hL hiI 2 (by decide) (2 : Int32) rfl) dL_law_2163 ?_
  refine lv_topi (fun x2 ex2 => ?_)
  refine lv_aload_n hx hb dL_law_2164 rfl (lv_at hl 0 rfl) ?_
  refine lv_iload hx hb dL_law_2165 (lv_at hl 4 rfl) ?_
  refine lv_iconst (v := (3 : Int32)) hx hb dL_law_2167 (by decide) ?_
  refine lv_iadd hx hb dL_law_2168 ?_
  refine va_sld hx hb hX9 hbl hbA hS (zin_L hi hL hiI 3 (by decide) (3 : Int32) rfl) dL_law_2169 ?_
  refine lv_topi (fun x3 ex3 => ?_)
  refine lv_aload_n hx hb dL_law_2170 rfl (lv_at hl 3 rfl) ?_
  obtain ⟨e, bb, q', w', fr', g', re', fi', ro', im', r', pk', ff', value', place', places', e1, e2, hA, hI'⟩ := zI_groupSize K hK9 hI q fr x1 x2 x3 th pk place places
  unfold zapr zapg at e1
  refine z_callW (wc := (ao, zoc tt vo) :: wL tt a b d wd fa od hd qc qs bc bs tl rl H q w fr tr g re fi ro im r pk cz lh lp se md ff) (wr := wM tt c now before chg th row comes layer rounds value place places made lq left gone) (As := [.ref (a 0), .int x1, .int x2, .int x3, .ref ao]) (rest := []) ⟨hx, hb, hml, hown, hts⟩ hK hN hX hNc hP hD hS hA9 (mL_groupSize l G tt sa hlt H0.size K a b d wd fa od hd qc qs bc bs tl rl H q w fr tr g re fi ro im r pk cz lh lp se md ff x1 x2 x3 ao vo _ e1 bb hA) (vx_cwSW 5 hts gL_law_L_groupSize rfl rfl rfl (by decide +kernel) ⟨Nat.le_of_ble_eq_true rfl, Nat.le_of_ble_eq_true rfl⟩) rfl hl.1 rfl (Nat.le_of_ble_eq_true rfl) dL_law_2171 ⟨hc1, hs1⟩ (fun rr u H0 locs hw hP hD hS => ?_)
  obtain ⟨hw1, hw2⟩ := hw
  replace hw1 := hw1.symm; subst hw1
  replace hw2 := hw2.symm; subst hw2
  have hP : va_P G vwCl (wM tt c now before chg th row comes layer rounds value place places made lq left gone ++ ((ao, zoc tt (zout Int32.toInt64 vo e)) :: wL tt a b d wd fa od hd qc qs bc bs tl rl H q' w' fr' tr g' re' fi' ro' im' r' pk' cz lh lp se md ff')) H0 := hP
  have hD : va_D (fun q : Nat => s.heap.size ≤ q) (wM tt c now before chg th row comes layer rounds value place places made lq left gone ++ ((ao, zoc tt (zout Int32.toInt64 vo e)) :: wL tt a b d wd fa od hd qc qs bc bs tl rl H q' w' fr' tr g' re' fi' ro' im' r' pk' cz lh lp se md ff')) := hD
  refine lv_istore (lv' := [(5, .int bb.2), (0, .ref sb), (1, .ref (a 0)), (2, .ref (c 0)), (3, .ref ao), (4, .int iI)]) hx hb dL_law_2174 hl (by decide) rfl (fun ls hl => ?_)
  refine lv_aload_n hx hb dL_law_2176 rfl (lv_at hl 3 rfl) ?_
  refine lv_aload_n hx hb dL_law_2177 rfl (lv_at hl 1 rfl) ?_
  refine lv_iload hx hb dL_law_2178 (lv_at hl 5 rfl) ?_
  refine lv_iconst (v := (1 : Int32)) hx hb dL_law_2180 (by decide) ?_
  refine lv_iadd hx hb dL_law_2181 ?_
  refine va_sld hx hb hX9 hbl hbA hS (zin_L hi hL hiI 1 (by decide) (1 : Int32) rfl) dL_law_2182 ?_
  refine lv_topi (fun x4 ex4 => ?_)
  obtain rfl : x4 = x1 := ex4.trans ex1.symm
  refine lv_aload_n hx hb dL_law_2183 rfl (lv_at hl 1 rfl) ?_
  refine lv_iload hx hb dL_law_2184 (lv_at hl 5 rfl) ?_
  refine lv_iconst (v := (2 : Int32)) hx hb dL_law_2186 (by decide) ?_
  refine lv_iadd hx hb dL_law_2187 ?_
  refine va_sld hx hb hX9 hbl hbA hS (zin_L hi hL hiI 2 (by decide) (2 : Int32) rfl) dL_law_2188 ?_
  refine lv_topi (fun x5 ex5 => ?_)
  obtain rfl : x5 = x2 := ex5.trans ex2.symm
  refine lv_aload_n hx hb dL_law_2189 rfl (lv_at hl 1 rfl) ?_
  refine lv_iload hx hb dL_law_2190 (lv_at hl 5 rfl) ?_
  refine lv_iconst (v := (3 : Int32)) hx hb dL_law_2192 (by decide) ?_
  refine lv_iadd hx hb dL_law_2193 ?_
  refine va_sld hx hb hX9 hbl hbA hS (zin_L hi hL hiI 3 (by decide) (3 : Int32) rfl) dL_law_2194 ?_
  refine lv_topi (fun x6 ex6 => ?_)
  obtain rfl : x6 = x3 := ex6.trans ex3.symm
  refine z_callVi (wc := wM tt c now before chg th row comes layer rounds value place places made lq left gone) (wr := (ao, zoc tt (zout Int32.toInt64 vo e)) :: wL tt a b d wd fa od hd qc qs bc bs tl rl H q' w' fr' tr g' re' fi' ro' im' r' pk' cz lh lp se md ff') (As := [.int x4, .int x5, .int x6]) (rest := []) (ci := 11) ⟨hx, hb, hml, hown, hts⟩ hK hN hP hD hS hA9 (nX12_groupSize l G tt H0.size K c now before chg th row comes layer rounds value place places made lq left gone x4 x5 x6 _ e2) (cwV 3 hts gL_law_X12_groupSize rfl rfl rfl (by decide +kernel) ⟨Nat.le_of_ble_eq_true rfl, Nat.le_of_ble_eq_true rfl⟩) rfl rfl rfl hl.1 rfl (Nat.le_of_ble_eq_true rfl) dL_law_2195 ⟨hc1, hs1⟩ (fun rr u H0 locs hw hP hD hS => ?_)
  obtain ⟨hw1, hw2⟩ := hw
  replace hw1 := hw1.symm; subst hw1
  replace hw2 := hw2.symm; subst hw2
  have hP : va_P G vwCl (((ao, zoc tt (zout Int32.toInt64 vo e)) :: wL tt a b d wd fa od hd qc qs bc bs tl rl H q' w' fr' tr g' re' fi' ro' im' r' pk' cz lh lp se md ff') ++ wM tt c now before chg bb.2 row comes layer rounds value' place' places' made lq left gone) H0 := hP
  have hD : va_D (fun q : Nat => s.heap.size ≤ q) (((ao, zoc tt (zout Int32.toInt64 vo e)) :: wL tt a b d wd fa od hd qc qs bc bs tl rl H q' w' fr' tr g' re' fi' ro' im' r' pk' cz lh lp se md ff') ++ wM tt c now before chg bb.2 row comes layer rounds value' place' places' made lq left gone) := hD
  refine lv_istore (lv' := [(6, .int bb.1), (5, .int bb.2), (0, .ref sb), (1, .ref (a 0)), (2, .ref (c 0)), (3, .ref ao), (4, .int iI)]) hx hb dL_law_2198 hl (by decide) rfl (fun ls hl => ?_)
  refine lv_aload_n hx hb dL_law_2200 rfl (lv_at hl 4 rfl) ?_
  have hP := zP_perm (List.perm_append_comm (l₁ := (ao, zoc tt (zout Int32.toInt64 vo e)) :: wL tt a b d wd fa od hd qc qs bc bs tl rl H q' w' fr' tr g' re' fi' ro' im' r' pk' cz lh lp se md ff') (l₂ := wM tt c now before chg bb.2 row comes layer rounds value' place' places' made lq left gone)) hP
  have hD := zD_perm (List.perm_append_comm (l₁ := (ao, zoc tt (zout Int32.toInt64 vo e)) :: wL tt a b d wd fa od hd qc qs bc bs tl rl H q' w' fr' tr g' re' fi' ro' im' r' pk' cz lh lp se md ff') (l₂ := wM tt c now before chg bb.2 row comes layer rounds value' place' places' made lq left gone)) hD
  refine z_callVi (wc := wM tt c now before chg bb.2 row comes layer rounds value' place' places' made lq left gone) (wr := (ao, zoc tt (zout Int32.toInt64 vo e)) :: wL tt a b d wd fa od hd qc qs bc bs tl rl H q' w' fr' tr g' re' fi' ro' im' r' pk' cz lh lp se md ff') (As := []) (rest := []) (ci := 11) ⟨hx, hb, hml, hown, hts⟩ hK hN hP hD hS hA9 (nX12_thrown l G tt H0.size c now before chg bb.2 row comes layer rounds value' place' places' made lq left gone bb.2 rfl) (cwV 0 hts gL_law_X12_thrown rfl rfl rfl (by decide +kernel) ⟨Nat.le_of_ble_eq_true rfl, Nat.le_of_ble_eq_true rfl⟩) rfl rfl rfl hl.1 rfl (Nat.le_of_ble_eq_true rfl) dL_law_2201 ⟨hc1, hs1⟩ (fun rr u H0 locs hw hP hD hS => ?_)
  replace hw := hw.symm; subst hw
  have hP : va_P G vwCl (((ao, zoc tt (zout Int32.toInt64 vo e)) :: wL tt a b d wd fa od hd qc qs bc bs tl rl H q' w' fr' tr g' re' fi' ro' im' r' pk' cz lh lp se md ff') ++ wM tt c now before chg bb.2 row comes layer rounds value' place' places' made lq left gone) H0 := hP
  have hD : va_D (fun q : Nat => s.heap.size ≤ q) (((ao, zoc tt (zout Int32.toInt64 vo e)) :: wL tt a b d wd fa od hd qc qs bc bs tl rl H q' w' fr' tr g' re' fi' ro' im' r' pk' cz lh lp se md ff') ++ wM tt c now before chg bb.2 row comes layer rounds value' place' places' made lq left gone) := hD
  refine lv_iload hx hb dL_law_2204 (lv_at hl 1 rfl) ?_
  refine lv_icmp_eq (tgt := 2211) hx hb dL_law_2206 (by decide) (fun _ => ?_) (fun h9 => absurd rfl h9)
  refine lv_iload hx hb dL_law_2211 (lv_at hl 1 rfl) ?_
  rcases hA with ⟨k9, hk9, ek, rfl⟩ | ⟨v9, ev, rfl⟩
  · refine lv_if_ne (tgt := 2228) hx hb dL_law_2213 (by decide) (fun _ => ?_) (fun h9 => absurd h9 (fun h => zcd_ne k9 h))
    refine lv_goto (tgt := 2784) hx hb dL_law_2228 (by decide) ?_
    refine z_widen (k := ce + 4) (n := sl + 24) (by omega) (by omega) ?_
    exact kk H0 locs ls ⟨wd, fa, od, hd, qc, qs, bc, bs, tl, rl, H, q', w', fr', tr, g', re', fi', ro', im', r', pk', cz, lh, lp, se, md, ff', now, before, chg, _, row, comes, layer, rounds, value', place', places', made, lq, left, gone, (zout Int32.toInt64 vo e), hI', hP, hD⟩ hS (lv_sub hl [2, 3, 4, 5, 6] rfl)
  · refine lv_if_ne (tgt := 2228) hx hb dL_law_2213 (by decide) (fun h9 => absurd rfl h9) (fun _ => ?_)
    refine lv_aload_n hx hb dL_law_2216 rfl (lv_at hl 5 rfl) ?_
    refine lv_iconst (v := (0 : Int32)) hx hb dL_law_2217 (by decide) ?_
    refine va_lald hx hb hK hP 0 1 rfl rfl (inB_vp (by decide)) dL_law_2218 ?_
    refine lv_iload hx hb dL_law_2219 (lv_at hl 0 rfl) ?_
    refine lv_i2l hx hb dL_law_2221 rfl ?_
    refine W.lcmp hx hb dL_law_2222 ?_
    refine lv_if_eq (tgt := 2228) hx hb dL_law_2223 (by decide) (fun _ => ?_) (fun h9 => absurd ((lg_cmp_eq _ _).mpr (by subst ev; exact (zout_at Int32.toInt64 vo v9))) h9)
    refine lv_goto (tgt := 2784) hx hb dL_law_2228 (by decide) ?_
    refine z_widen (k := ce + 4) (n := sl + 24) (by omega) (by omega) ?_
    exact kk H0 locs ls ⟨wd, fa, od, hd, qc, qs, bc, bs, tl, rl, H, q', w', fr', tr, g', re', fi', ro', im', r', pk', cz, lh, lp, se, md, ff', now, before, chg, _, row, comes, layer, rounds, value', place', places', made, lq, left, gone, (zout Int32.toInt64 vo e), hI', hP, hD⟩ hS (lv_sub hl [2, 3, 4, 5, 6] rfl)

set_option maxHeartbeats 4000000 in
set_option maxRecDepth 100000 in
theorem zarm_idleRows (K : Nat) (hK9 : 1000000 < K) {p : Program} {l : Launch} {e0 : Env} {s : State} {m : MethodId} {below : List Frame} {meth : Method} {cd : Code} {sb L : Nat} {xs : Nat → Int32} {G : va_G} {tt : Nat → ClassId} {sa : Nat → Nat} (C : zCtx p l s m meth cd sb L xs G tt sa) (a : Nat → Nat) (b : Nat → Nat → Nat) (d : Nat → Nat → Nat → Nat) (c : Nat → Nat) (ao : Nat) {i : Nat} {iI : Int32} (hi : i + 7 ≤ L) (hiI : iI = nI i) {ce sl : Nat} (hce : ce ≤ 600000) (hsl : sl ≤ 7290000) {H0 : Heap} {locs : List Loc} (hw : zWorld G tt a b d c ao (fun q : Nat => s.heap.size ≤ q) H0) (hS : va_S (fun q : Nat => s.heap.size ≤ q) s.heap H0 locs) {ls : Array Slot} (hl : lv_has ls 9 [(0, .ref sb), (1, .ref (a 0)), (2, .ref (c 0)), (3, .ref ao), (4, .int iI)])
    (kk : ∀ (H1 : Heap) (locs1 : List Loc) (ls1 : Array Slot), zWorld G tt a b d c ao (fun q : Nat => s.heap.size ≤ q) H1 → va_S (fun q : Nat => s.heap.size ≤ q) s.heap H1 locs1 → lv_has ls1 9 [(0, .ref sb), (1, .ref (a 0)), (2, .ref (c 0)), (3, .ref ao), (4, .int iI)] → W p l e0 room_1 s m #[Value.ref sb] below meth cd H1 locs1 (ce + 4) (sl + 24) (lw_Z below #[Value.ref sb] s) (F0 m 2784 ls1 [])) :
    W p l e0 room_1 s m #[Value.ref sb] below meth cd H0 locs ce sl (lw_Z below #[Value.ref sb] s) (F0 m 2231 ls []) := by
  obtain ⟨wd, fa, od, hd, qc, qs, bc, bs, tl, rl, H, q, w, fr, tr, g, re, fi, ro, im, r, pk, cz, lh, lp, se, md, ff, now, before, chg, th, row, comes, layer, rounds, value, place, places, made, lq, left, gone, vo, hI, hP, hD⟩ := hw
  obtain ⟨hlt, hL, C0, hK, hN, hX, hNc⟩ := C
  obtain ⟨hx, hb, hr, hml, hown, hts0, hX9, hbl, hlocks, hgv⟩ := C0
  have hts : ∀ w ∈ wsL_law, w.before #[Value.ref sb] s = true := fun w h => hts0 w (zL_law w h)
  have hown : s.vm.findClass RL = some m.cls := hown
  have hA9 : ∀ q : Nat, s.heap.size ≤ q → (fun q : Nat => s.heap.size ≤ q) q := fun _ h => h
  have hbA : ¬ (fun q : Nat => s.heap.size ≤ q) sb := Nat.not_le.mpr hbl
  have hc0 : ce ≤ room_1.cells := by show ce ≤ 601024; omega
  have hs0 : sl ≤ room_1.slots := by show sl ≤ 7293034; omega
  have hc1 : ce + 2 ≤ room_1.cells := by show ce + 2 ≤ 601024; omega
  have hs1 : sl + 12 ≤ room_1.slots := by show sl + 12 ≤ 7293034; omega
  refine lv_aload_n hx hb dL_law_2231 rfl (lv_at hl 1 rfl) ?_
  refine lv_aload_n hx hb dL_law_2232 rfl (lv_at hl 0 rfl) ?_
  refine lv_iload hx hb dL_law_2233 (lv_at hl 4 rfl) ?_
  refine lv_iconst (v := (1 : Int32)) hx hb dL_law_2235 (by decide) ?_
  refine lv_iadd hx hb dL_law_2236 ?_
  refine va_sld hx hb hX9 hbl hbA hS (zin_L hi hL hiI 1 (by decide) (1 : Int32) rfl) dL_law_2237 ?_
  refine lv_topi (fun x1 ex1 => ?_)
  refine lv_aload_n hx hb dL_law_2238 rfl (lv_at hl 0 rfl) ?_
  refine lv_iload hx hb dL_law_2239 (lv_at hl 4 rfl) ?_
  refine lv_iconst (v := (2 : Int32)) hx hb dL_law_2241 (by decide) ?_
  refine lv_iadd hx hb dL_law_2242 ?_
  refine va_sld hx hb hX9 hbl hbA hS (zin_L hi hL hiI 2 (by decide) (2 : Int32) rfl) dL_law_2243 ?_
  refine lv_topi (fun x2 ex2 => ?_)
  refine lv_aload_n hx hb dL_law_2244 rfl (lv_at hl 3 rfl) ?_
  obtain ⟨e, bb, q', w', fr', g', re', fi', ro', im', r', pk', md', ff', value', place', places', made', e1, e2, hA, hI'⟩ := zI_idleRows K hK9 hI q fr x1 x2 th pk md place places made
  unfold zapr zapg at e1
  refine z_callW (wc := (ao, zoc tt vo) :: wL tt a b d wd fa od hd qc qs bc bs tl rl H q w fr tr g re fi ro im r pk cz lh lp se md ff) (wr := wM tt c now before chg th row comes layer rounds value place places made lq left gone) (As := [.ref (a 0), .int x1, .int x2, .ref ao]) (rest := []) ⟨hx, hb, hml, hown, hts⟩ hK hN hX hNc hP hD hS hA9 (mL_idleRows l G tt sa hlt H0.size K a b d wd fa od hd qc qs bc bs tl rl H q w fr tr g re fi ro im r pk cz lh lp se md ff x1 x2 ao vo _ e1 bb hA) (vx_cwSW 4 hts gL_law_L_idleRows rfl rfl rfl (by decide +kernel) ⟨Nat.le_of_ble_eq_true rfl, Nat.le_of_ble_eq_true rfl⟩) rfl hl.1 rfl (Nat.le_of_ble_eq_true rfl) dL_law_2245 ⟨hc1, hs1⟩ (fun rr u H0 locs hw hP hD hS => ?_)
  obtain ⟨hw1, hw2⟩ := hw
  replace hw1 := hw1.symm; subst hw1
  replace hw2 := hw2.symm; subst hw2
  have hP : va_P G vwCl (wM tt c now before chg th row comes layer rounds value place places made lq left gone ++ ((ao, zoc tt (zout Int32.toInt64 vo e)) :: wL tt a b d wd fa od hd qc qs bc bs tl rl H q' w' fr' tr g' re' fi' ro' im' r' pk' cz lh lp se md' ff')) H0 := hP
  have hD : va_D (fun q : Nat => s.heap.size ≤ q) (wM tt c now before chg th row comes layer rounds value place places made lq left gone ++ ((ao, zoc tt (zout Int32.toInt64 vo e)) :: wL tt a b d wd fa od hd qc qs bc bs tl rl H q' w' fr' tr g' re' fi' ro' im' r' pk' cz lh lp se md' ff')) := hD
  refine lv_istore (lv' := [(5, .int bb.2), (0, .ref sb), (1, .ref (a 0)), (2, .ref (c 0)), (3, .ref ao), (4, .int iI)]) hx hb dL_law_2248 hl (by decide) rfl (fun ls hl => ?_)
  refine lv_aload_n hx hb dL_law_2250 rfl (lv_at hl 3 rfl) ?_
  refine lv_aload_n hx hb dL_law_2251 rfl (lv_at hl 1 rfl) ?_
  refine lv_iload hx hb dL_law_2252 (lv_at hl 5 rfl) ?_
  refine lv_iconst (v := (1 : Int32)) hx hb dL_law_2254 (by decide) ?_
  refine lv_iadd hx hb dL_law_2255 ?_
  refine va_sld hx hb hX9 hbl hbA hS (zin_L hi hL hiI 1 (by decide) (1 : Int32) rfl) dL_law_2256 ?_
  refine lv_topi (fun x3 ex3 => ?_)
  obtain rfl : x3 = x1 := ex3.trans ex1.symm
  refine lv_aload_n hx hb dL_law_2257 rfl (lv_at hl 1 rfl) ?_
  refine lv_iload hx hb dL_law_2258 (lv_at hl 5 rfl) ?_
  refine lv_iconst (v := (2 : Int32)) hx hb dL_law_2260 (by decide) ?_
  refine lv_iadd hx hb dL_law_2261 ?_
  refine va_sld hx hb hX9 hbl hbA hS (zin_L hi hL hiI 2 (by decide) (2 : Int32) rfl) dL_law_2262 ?_
  refine lv_topi (fun x4 ex4 => ?_)
  obtain rfl : x4 = x2 := ex4.trans ex2.symm
  refine z_callVi (wc := wM tt c now before chg th row comes layer rounds value place places made lq left gone) (wr := (ao, zoc tt (zout Int32.toInt64 vo e)) :: wL tt a b d wd fa od hd qc qs bc bs tl rl H q' w' fr' tr g' re' fi' ro' im' r' pk' cz lh lp se md' ff') (As := [.int x3, .int x4]) (rest := []) (ci := 11) ⟨hx, hb, hml, hown, hts⟩ hK hN hP hD hS hA9 (nX12_idleRows l G tt H0.size K c now before chg th row comes layer rounds value place places made lq left gone x3 x4 _ e2) (cwV 2 hts gL_law_X12_idleRows rfl rfl rfl (by decide +kernel) ⟨Nat.le_of_ble_eq_true rfl, Nat.le_of_ble_eq_true rfl⟩) rfl rfl rfl hl.1 rfl (Nat.le_of_ble_eq_true rfl) dL_law_2263 ⟨hc1, hs1⟩ (fun rr u H0 locs hw hP hD hS => ?_)
  obtain ⟨hw1, hw2⟩ := hw
  replace hw1 := hw1.symm; subst hw1
  replace hw2 := hw2.symm; subst hw2
  have hP : va_P G vwCl (((ao, zoc tt (zout Int32.toInt64 vo e)) :: wL tt a b d wd fa od hd qc qs bc bs tl rl H q' w' fr' tr g' re' fi' ro' im' r' pk' cz lh lp se md' ff') ++ wM tt c now before chg bb.2 row comes layer rounds value' place' places' made' lq left gone) H0 := hP
  have hD : va_D (fun q : Nat => s.heap.size ≤ q) (((ao, zoc tt (zout Int32.toInt64 vo e)) :: wL tt a b d wd fa od hd qc qs bc bs tl rl H q' w' fr' tr g' re' fi' ro' im' r' pk' cz lh lp se md' ff') ++ wM tt c now before chg bb.2 row comes layer rounds value' place' places' made' lq left gone) := hD
  refine lv_istore (lv' := [(6, .int bb.1), (5, .int bb.2), (0, .ref sb), (1, .ref (a 0)), (2, .ref (c 0)), (3, .ref ao), (4, .int iI)]) hx hb dL_law_2266 hl (by decide) rfl (fun ls hl => ?_)
  refine lv_aload_n hx hb dL_law_2268 rfl (lv_at hl 4 rfl) ?_
  have hP := zP_perm (List.perm_append_comm (l₁ := (ao, zoc tt (zout Int32.toInt64 vo e)) :: wL tt a b d wd fa od hd qc qs bc bs tl rl H q' w' fr' tr g' re' fi' ro' im' r' pk' cz lh lp se md' ff') (l₂ := wM tt c now before chg bb.2 row comes layer rounds value' place' places' made' lq left gone)) hP
  have hD := zD_perm (List.perm_append_comm (l₁ := (ao, zoc tt (zout Int32.toInt64 vo e)) :: wL tt a b d wd fa od hd qc qs bc bs tl rl H q' w' fr' tr g' re' fi' ro' im' r' pk' cz lh lp se md' ff') (l₂ := wM tt c now before chg bb.2 row comes layer rounds value' place' places' made' lq left gone)) hD
  refine z_callVi (wc := wM tt c now before chg bb.2 row comes layer rounds value' place' places' made' lq left gone) (wr := (ao, zoc tt (zout Int32.toInt64 vo e)) :: wL tt a b d wd fa od hd qc qs bc bs tl rl H q' w' fr' tr g' re' fi' ro' im' r' pk' cz lh lp se md' ff') (As := []) (rest := []) (ci := 11) ⟨hx, hb, hml, hown, hts⟩ hK hN hP hD hS hA9 (nX12_thrown l G tt H0.size c now before chg bb.2 row comes layer rounds value' place' places' made' lq left gone bb.2 rfl) (cwV 0 hts gL_law_X12_thrown rfl rfl rfl (by decide +kernel) ⟨Nat.le_of_ble_eq_true rfl, Nat.le_of_ble_eq_true rfl⟩) rfl rfl rfl hl.1 rfl (Nat.le_of_ble_eq_true rfl) dL_law_2269 ⟨hc1, hs1⟩ (fun rr u H0 locs hw hP hD hS => ?_)
  replace hw := hw.symm; subst hw
  have hP : va_P G vwCl (((ao, zoc tt (zout Int32.toInt64 vo e)) :: wL tt a b d wd fa od hd qc qs bc bs tl rl H q' w' fr' tr g' re' fi' ro' im' r' pk' cz lh lp se md' ff') ++ wM tt c now before chg bb.2 row comes layer rounds value' place' places' made' lq left gone) H0 := hP
  have hD : va_D (fun q : Nat => s.heap.size ≤ q) (((ao, zoc tt (zout Int32.toInt64 vo e)) :: wL tt a b d wd fa od hd qc qs bc bs tl rl H q' w' fr' tr g' re' fi' ro' im' r' pk' cz lh lp se md' ff') ++ wM tt c now before chg bb.2 row comes layer rounds value' place' places' made' lq left gone) := hD
  refine lv_iload hx hb dL_law_2272 (lv_at hl 1 rfl) ?_
  refine lv_icmp_eq (tgt := 2279) hx hb dL_law_2274 (by decide) (fun _ => ?_) (fun h9 => absurd rfl h9)
  refine lv_iload hx hb dL_law_2279 (lv_at hl 1 rfl) ?_
  rcases hA with ⟨k9, hk9, ek, rfl⟩ | ⟨v9, ev, rfl⟩
  · refine lv_if_ne (tgt := 2296) hx hb dL_law_2281 (by decide) (fun _ => ?_) (fun h9 => absurd h9 (fun h => zcd_ne k9 h))
    refine lv_goto (tgt := 2784) hx hb dL_law_2296 (by decide) ?_
    refine z_widen (k := ce + 4) (n := sl + 24) (by omega) (by omega) ?_
    exact kk H0 locs ls ⟨wd, fa, od, hd, qc, qs, bc, bs, tl, rl, H, q', w', fr', tr, g', re', fi', ro', im', r', pk', cz, lh, lp, se, md', ff', now, before, chg, _, row, comes, layer, rounds, value', place', places', made', lq, left, gone, (zout Int32.toInt64 vo e), hI', hP, hD⟩ hS (lv_sub hl [2, 3, 4, 5, 6] rfl)
  · refine lv_if_ne (tgt := 2296) hx hb dL_law_2281 (by decide) (fun h9 => absurd rfl h9) (fun _ => ?_)
    refine lv_aload_n hx hb dL_law_2284 rfl (lv_at hl 5 rfl) ?_
    refine lv_iconst (v := (0 : Int32)) hx hb dL_law_2285 (by decide) ?_
    refine va_lald hx hb hK hP 0 1 rfl rfl (inB_vp (by decide)) dL_law_2286 ?_
    refine lv_iload hx hb dL_law_2287 (lv_at hl 0 rfl) ?_
    refine lv_i2l hx hb dL_law_2289 rfl ?_
    refine W.lcmp hx hb dL_law_2290 ?_
    refine lv_if_eq (tgt := 2296) hx hb dL_law_2291 (by decide) (fun _ => ?_) (fun h9 => absurd ((lg_cmp_eq _ _).mpr (by subst ev; exact (zout_at Int32.toInt64 vo v9))) h9)
    refine lv_goto (tgt := 2784) hx hb dL_law_2296 (by decide) ?_
    refine z_widen (k := ce + 4) (n := sl + 24) (by omega) (by omega) ?_
    exact kk H0 locs ls ⟨wd, fa, od, hd, qc, qs, bc, bs, tl, rl, H, q', w', fr', tr, g', re', fi', ro', im', r', pk', cz, lh, lp, se, md', ff', now, before, chg, _, row, comes, layer, rounds, value', place', places', made', lq, left, gone, (zout Int32.toInt64 vo e), hI', hP, hD⟩ hS (lv_sub hl [2, 3, 4, 5, 6] rfl)

set_option maxHeartbeats 4000000 in
set_option maxRecDepth 100000 in
theorem zarm_isTree (K : Nat) (hK9 : 1000000 < K) {p : Program} {l : Launch} {e0 : Env} {s : State} {m : MethodId} {below : List Frame} {meth : Method} {cd : Code} {sb L : Nat} {xs : Nat → Int32} {G : va_G} {tt : Nat → ClassId} {sa : Nat → Nat} (C : zCtx p l s m meth cd sb L xs G tt sa) (a : Nat → Nat) (b : Nat → Nat → Nat) (d : Nat → Nat → Nat → Nat) (c : Nat → Nat) (ao : Nat) {i : Nat} {iI : Int32} (hi : i + 7 ≤ L) (hiI : iI = nI i) {ce sl : Nat} (hce : ce ≤ 600000) (hsl : sl ≤ 7290000) {H0 : Heap} {locs : List Loc} (hw : zWorld G tt a b d c ao (fun q : Nat => s.heap.size ≤ q) H0) (hS : va_S (fun q : Nat => s.heap.size ≤ q) s.heap H0 locs) {ls : Array Slot} (hl : lv_has ls 9 [(0, .ref sb), (1, .ref (a 0)), (2, .ref (c 0)), (3, .ref ao), (4, .int iI)])
    (kk : ∀ (H1 : Heap) (locs1 : List Loc) (ls1 : Array Slot), zWorld G tt a b d c ao (fun q : Nat => s.heap.size ≤ q) H1 → va_S (fun q : Nat => s.heap.size ≤ q) s.heap H1 locs1 → lv_has ls1 9 [(0, .ref sb), (1, .ref (a 0)), (2, .ref (c 0)), (3, .ref ao), (4, .int iI)] → W p l e0 room_1 s m #[Value.ref sb] below meth cd H1 locs1 (ce + 4) (sl + 24) (lw_Z below #[Value.ref sb] s) (F0 m 2784 ls1 [])) :
    W p l e0 room_1 s m #[Value.ref sb] below meth cd H0 locs ce sl (lw_Z below #[Value.ref sb] s) (F0 m 2299 ls []) := by
  obtain ⟨wd, fa, od, hd, qc, qs, bc, bs, tl, rl, H, q, w, fr, tr, g, re, fi, ro, im, r, pk, cz, lh, lp, se, md, ff, now, before, chg, th, row, comes, layer, rounds, value, place, places, made, lq, left, gone, vo, hI, hP, hD⟩ := hw
  obtain ⟨hlt, hL, C0, hK, hN, hX, hNc⟩ := C
  obtain ⟨hx, hb, hr, hml, hown, hts0, hX9, hbl, hlocks, hgv⟩ := C0
  have hts : ∀ w ∈ wsL_law, w.before #[Value.ref sb] s = true := fun w h => hts0 w (zL_law w h)
  have hown : s.vm.findClass RL = some m.cls := hown
  have hA9 : ∀ q : Nat, s.heap.size ≤ q → (fun q : Nat => s.heap.size ≤ q) q := fun _ h => h
  have hbA : ¬ (fun q : Nat => s.heap.size ≤ q) sb := Nat.not_le.mpr hbl
  have hc0 : ce ≤ room_1.cells := by show ce ≤ 601024; omega
  have hs0 : sl ≤ room_1.slots := by show sl ≤ 7293034; omega
  have hc1 : ce + 1 ≤ room_1.cells := by show ce + 1 ≤ 601024; omega
  have hs1 : sl + 6 ≤ room_1.slots := by show sl + 6 ≤ 7293034; omega
  refine lv_aload_n hx hb dL_law_2299 rfl (lv_at hl 1 rfl) ?_
  refine lv_aload_n hx hb dL_law_2300 rfl (lv_at hl 0 rfl) ?_
  refine lv_iload hx hb dL_law_2301 (lv_at hl 4 rfl) ?_
  refine lv_iconst (v := (1 : Int32)) hx hb dL_law_2303 (by decide) ?_
  refine lv_iadd hx hb dL_law_2304 ?_
  refine va_sld hx hb hX9 hbl hbA hS (zin_L hi hL hiI 1 (by decide) (1 : Int32) rfl) dL_law_2305 ?_
  refine lv_topi (fun x1 ex1 => ?_)
  refine lv_aload_n hx hb dL_law_2306 rfl (lv_at hl 3 rfl) ?_
  obtain ⟨e, sets', bb, left', gone', e1, e2, hA⟩ := zI_isTree K hK9 hI se left gone x1 th
  refine z_callW (wc := (ao, zoc tt vo) :: wL tt a b d wd fa od hd qc qs bc bs tl rl H q w fr tr g re fi ro im r pk cz lh lp se md ff) (wr := wM tt c now before chg th row comes layer rounds value place places made lq left gone) (As := [.ref (a 0), .int x1, .ref ao]) (rest := []) ⟨hx, hb, hml, hown, hts⟩ hK hN hX hNc hP hD hS hA9 (mL_isTree l G tt sa hlt H0.size K a b d wd fa od hd qc qs bc bs tl rl H q w fr tr g re fi ro im r pk cz lh lp se md ff x1 ao vo _ e1 bb hA) (vx_cwSW 3 hts gL_law_L_isTree rfl rfl rfl (by decide +kernel) ⟨Nat.le_of_ble_eq_true rfl, Nat.le_of_ble_eq_true rfl⟩) rfl hl.1 rfl (Nat.le_of_ble_eq_true rfl) dL_law_2307 ⟨hc1, hs1⟩ (fun rr u H0 locs hw hP hD hS => ?_)
  obtain ⟨hw1, hw2⟩ := hw
  replace hw1 := hw1.symm; subst hw1
  replace hw2 := hw2.symm; subst hw2
  have hP : va_P G vwCl (wM tt c now before chg th row comes layer rounds value place places made lq left gone ++ ((ao, zoc tt (zout zbL vo e)) :: wL tt a b d wd fa od hd qc qs bc bs tl rl H q w fr tr g re fi ro im r pk cz lh lp sets' md ff)) H0 := hP
  have hD : va_D (fun q : Nat => s.heap.size ≤ q) (wM tt c now before chg th row comes layer rounds value place places made lq left gone ++ ((ao, zoc tt (zout zbL vo e)) :: wL tt a b d wd fa od hd qc qs bc bs tl rl H q w fr tr g re fi ro im r pk cz lh lp sets' md ff)) := hD
  refine lv_istore (lv' := [(5, .int bb.2), (0, .ref sb), (1, .ref (a 0)), (2, .ref (c 0)), (3, .ref ao), (4, .int iI)]) hx hb dL_law_2310 hl (by decide) rfl (fun ls hl => ?_)
  refine lv_aload_n hx hb dL_law_2312 rfl (lv_at hl 3 rfl) ?_
  refine lv_aload_n hx hb dL_law_2313 rfl (lv_at hl 1 rfl) ?_
  refine lv_iload hx hb dL_law_2314 (lv_at hl 5 rfl) ?_
  refine lv_iconst (v := (1 : Int32)) hx hb dL_law_2316 (by decide) ?_
  refine lv_iadd hx hb dL_law_2317 ?_
  refine va_sld hx hb hX9 hbl hbA hS (zin_L hi hL hiI 1 (by decide) (1 : Int32) rfl) dL_law_2318 ?_
  refine lv_topi (fun x2 ex2 => ?_)
  obtain rfl : x2 = x1 := ex2.trans ex1.symm
  refine z_callVi (wc := wM tt c now before chg th row comes layer rounds value place places made lq left gone) (wr := (ao, zoc tt (zout zbL vo e)) :: wL tt a b d wd fa od hd qc qs bc bs tl rl H q w fr tr g re fi ro im r pk cz lh lp sets' md ff) (As := [.int x2]) (rest := []) (ci := 11) ⟨hx, hb, hml, hown, hts⟩ hK hN hP hD hS hA9 (nX12_isTree l G tt H0.size K c now before chg th row comes layer rounds value place places made lq left gone x2 _ e2) (cwV 1 hts gL_law_X12_isTree rfl rfl rfl (by decide +kernel) ⟨Nat.le_of_ble_eq_true rfl, Nat.le_of_ble_eq_true rfl⟩) rfl rfl rfl hl.1 rfl (Nat.le_of_ble_eq_true rfl) dL_law_2319 ⟨hc1, hs1⟩ (fun rr u H0 locs hw hP hD hS => ?_)
  obtain ⟨hw1, hw2⟩ := hw
  replace hw1 := hw1.symm; subst hw1
  replace hw2 := hw2.symm; subst hw2
  have hP : va_P G vwCl (((ao, zoc tt (zout zbL vo e)) :: wL tt a b d wd fa od hd qc qs bc bs tl rl H q w fr tr g re fi ro im r pk cz lh lp sets' md ff) ++ wM tt c now before chg bb.2 row comes layer rounds value place places made lq left' gone') H0 := hP
  have hD : va_D (fun q : Nat => s.heap.size ≤ q) (((ao, zoc tt (zout zbL vo e)) :: wL tt a b d wd fa od hd qc qs bc bs tl rl H q w fr tr g re fi ro im r pk cz lh lp sets' md ff) ++ wM tt c now before chg bb.2 row comes layer rounds value place places made lq left' gone') := hD
  refine lv_istore (lv' := [(6, .int (bI bb.1)), (5, .int bb.2), (0, .ref sb), (1, .ref (a 0)), (2, .ref (c 0)), (3, .ref ao), (4, .int iI)]) hx hb dL_law_2322 hl (by decide) rfl (fun ls hl => ?_)
  refine lv_aload_n hx hb dL_law_2324 rfl (lv_at hl 4 rfl) ?_
  have hP := zP_perm (List.perm_append_comm (l₁ := (ao, zoc tt (zout zbL vo e)) :: wL tt a b d wd fa od hd qc qs bc bs tl rl H q w fr tr g re fi ro im r pk cz lh lp sets' md ff) (l₂ := wM tt c now before chg bb.2 row comes layer rounds value place places made lq left' gone')) hP
  have hD := zD_perm (List.perm_append_comm (l₁ := (ao, zoc tt (zout zbL vo e)) :: wL tt a b d wd fa od hd qc qs bc bs tl rl H q w fr tr g re fi ro im r pk cz lh lp sets' md ff) (l₂ := wM tt c now before chg bb.2 row comes layer rounds value place places made lq left' gone')) hD
  refine z_callVi (wc := wM tt c now before chg bb.2 row comes layer rounds value place places made lq left' gone') (wr := (ao, zoc tt (zout zbL vo e)) :: wL tt a b d wd fa od hd qc qs bc bs tl rl H q w fr tr g re fi ro im r pk cz lh lp sets' md ff) (As := []) (rest := []) (ci := 11) ⟨hx, hb, hml, hown, hts⟩ hK hN hP hD hS hA9 (nX12_thrown l G tt H0.size c now before chg bb.2 row comes layer rounds value place places made lq left' gone' bb.2 rfl) (cwV 0 hts gL_law_X12_thrown rfl rfl rfl (by decide +kernel) ⟨Nat.le_of_ble_eq_true rfl, Nat.le_of_ble_eq_true rfl⟩) rfl rfl rfl hl.1 rfl (Nat.le_of_ble_eq_true rfl) dL_law_2325 ⟨hc1, hs1⟩ (fun rr u H0 locs hw hP hD hS => ?_)
  replace hw := hw.symm; subst hw
  have hP : va_P G vwCl (((ao, zoc tt (zout zbL vo e)) :: wL tt a b d wd fa od hd qc qs bc bs tl rl H q w fr tr g re fi ro im r pk cz lh lp sets' md ff) ++ wM tt c now before chg bb.2 row comes layer rounds value place places made lq left' gone') H0 := hP
  have hD : va_D (fun q : Nat => s.heap.size ≤ q) (((ao, zoc tt (zout zbL vo e)) :: wL tt a b d wd fa od hd qc qs bc bs tl rl H q w fr tr g re fi ro im r pk cz lh lp sets' md ff) ++ wM tt c now before chg bb.2 row comes layer rounds value place places made lq left' gone') := hD
  refine lv_iload hx hb dL_law_2328 (lv_at hl 1 rfl) ?_
  refine lv_icmp_eq (tgt := 2335) hx hb dL_law_2330 (by decide) (fun _ => ?_) (fun h9 => absurd rfl h9)
  refine lv_iload hx hb dL_law_2335 (lv_at hl 1 rfl) ?_
  rcases hA with ⟨k9, hk9, ek, rfl⟩ | ⟨v9, ev, rfl⟩
  · refine lv_if_ne (tgt := 2359) hx hb dL_law_2337 (by decide) (fun _ => ?_) (fun h9 => absurd h9 (fun h => zcd_ne k9 h))
    refine lv_goto (tgt := 2784) hx hb dL_law_2359 (by decide) ?_
    refine z_widen (k := ce + 4) (n := sl + 24) (by omega) (by omega) ?_
    exact kk H0 locs ls ⟨wd, fa, od, hd, qc, qs, bc, bs, tl, rl, H, q, w, fr, tr, g, re, fi, ro, im, r, pk, cz, lh, lp, sets', md, ff, now, before, chg, _, row, comes, layer, rounds, value, place, places, made, lq, left', gone', (zout zbL vo e), hI, hP, hD⟩ hS (lv_sub hl [2, 3, 4, 5, 6] rfl)
  · refine lv_if_ne (tgt := 2359) hx hb dL_law_2337 (by decide) (fun h9 => absurd rfl h9) (fun _ => ?_)
    refine lv_aload_n hx hb dL_law_2340 rfl (lv_at hl 5 rfl) ?_
    refine lv_iconst (v := (0 : Int32)) hx hb dL_law_2341 (by decide) ?_
    refine va_lald hx hb hK hP 0 1 rfl rfl (inB_vp (by decide)) dL_law_2342 ?_
    refine lv_iload hx hb dL_law_2343 (lv_at hl 0 rfl) ?_
    cases v9
    · refine lv_if_eq (tgt := 2352) hx hb dL_law_2345 (by decide) (fun _ => ?_) (fun h9 => absurd rfl h9)
      refine lv_lconst (v := (0 : Int64)) hx hb dL_law_2352 (by decide) ?_
      refine W.lcmp hx hb dL_law_2353 ?_
      refine lv_if_eq (tgt := 2359) hx hb dL_law_2354 (by decide) (fun _ => ?_) (fun h9 => absurd ((lg_cmp_eq _ _).mpr (by subst ev; exact (zout_at zbL vo false))) h9)
      refine lv_goto (tgt := 2784) hx hb dL_law_2359 (by decide) ?_
      refine z_widen (k := ce + 4) (n := sl + 24) (by omega) (by omega) ?_
      exact kk H0 locs ls ⟨wd, fa, od, hd, qc, qs, bc, bs, tl, rl, H, q, w, fr, tr, g, re, fi, ro, im, r, pk, cz, lh, lp, sets', md, ff, now, before, chg, _, row, comes, layer, rounds, value, place, places, made, lq, left', gone', (zout zbL vo e), hI, hP, hD⟩ hS (lv_sub hl [2, 3, 4, 5, 6] rfl)
    · refine lv_if_eq (tgt := 2352) hx hb dL_law_2345 (by decide) (fun h9 => absurd h9 (by decide)) (fun _ => ?_)
      refine lv_lconst (v := (1 : Int64)) hx hb dL_law_2348 (by decide) ?_
      refine lv_goto (tgt := 2353) hx hb dL_law_2349 (by decide) ?_
      refine W.lcmp hx hb dL_law_2353 ?_
      refine lv_if_eq (tgt := 2359) hx hb dL_law_2354 (by decide) (fun _ => ?_) (fun h9 => absurd ((lg_cmp_eq _ _).mpr (by subst ev; exact (zout_at zbL vo true))) h9)
      refine lv_goto (tgt := 2784) hx hb dL_law_2359 (by decide) ?_
      refine z_widen (k := ce + 4) (n := sl + 24) (by omega) (by omega) ?_
      exact kk H0 locs ls ⟨wd, fa, od, hd, qc, qs, bc, bs, tl, rl, H, q, w, fr, tr, g, re, fi, ro, im, r, pk, cz, lh, lp, sets', md, ff, now, before, chg, _, row, comes, layer, rounds, value, place, places, made, lq, left', gone', (zout zbL vo e), hI, hP, hD⟩ hS (lv_sub hl [2, 3, 4, 5, 6] rfl)

set_option maxHeartbeats 4000000 in
set_option maxRecDepth 100000 in
theorem zarm_cover (K : Nat) (hK9 : 1000000 < K) {p : Program} {l : Launch} {e0 : Env} {s : State} {m : MethodId} {below : List Frame} {meth : Method} {cd : Code} {sb L : Nat} {xs : Nat → Int32} {G : va_G} {tt : Nat → ClassId} {sa : Nat → Nat} (C : zCtx p l s m meth cd sb L xs G tt sa) (a : Nat → Nat) (b : Nat → Nat → Nat) (d : Nat → Nat → Nat → Nat) (c : Nat → Nat) (ao : Nat) {i : Nat} {iI : Int32} (hi : i + 7 ≤ L) (hiI : iI = nI i) {ce sl : Nat} (hce : ce ≤ 600000) (hsl : sl ≤ 7290000) {H0 : Heap} {locs : List Loc} (hw : zWorld G tt a b d c ao (fun q : Nat => s.heap.size ≤ q) H0) (hS : va_S (fun q : Nat => s.heap.size ≤ q) s.heap H0 locs) {ls : Array Slot} (hl : lv_has ls 9 [(0, .ref sb), (1, .ref (a 0)), (2, .ref (c 0)), (3, .ref ao), (4, .int iI)])
    (kk : ∀ (H1 : Heap) (locs1 : List Loc) (ls1 : Array Slot), zWorld G tt a b d c ao (fun q : Nat => s.heap.size ≤ q) H1 → va_S (fun q : Nat => s.heap.size ≤ q) s.heap H1 locs1 → lv_has ls1 9 [(0, .ref sb), (1, .ref (a 0)), (2, .ref (c 0)), (3, .ref ao), (4, .int iI)] → W p l e0 room_1 s m #[Value.ref sb] below meth cd H1 locs1 (ce + 4) (sl + 24) (lw_Z below #[Value.ref sb] s) (F0 m 2784 ls1 [])) :
    W p l e0 room_1 s m #[Value.ref sb] below meth cd H0 locs ce sl (lw_Z below #[Value.ref sb] s) (F0 m 2362 ls []) := by
  obtain ⟨wd, fa, od, hd, qc, qs, bc, bs, tl, rl, H, q, w, fr, tr, g, re, fi, ro, im, r, pk, cz, lh, lp, se, md, ff, now, before, chg, th, row, comes, layer, rounds, value, place, places, made, lq, left, gone, vo, hI, hP, hD⟩ := hw
  obtain ⟨hlt, hL, C0, hK, hN, hX, hNc⟩ := C
  obtain ⟨hx, hb, hr, hml, hown, hts0, hX9, hbl, hlocks, hgv⟩ := C0
  have hts : ∀ w ∈ wsL_law, w.before #[Value.ref sb] s = true := fun w h => hts0 w (zL_law w h)
  have hown : s.vm.findClass RL = some m.cls := hown
  have hA9 : ∀ q : Nat, s.heap.size ≤ q → (fun q : Nat => s.heap.size ≤ q) q := fun _ h => h
  have hbA : ¬ (fun q : Nat => s.heap.size ≤ q) sb := Nat.not_le.mpr hbl
  have hc0 : ce ≤ room_1.cells := by show ce ≤ 601024; omega
  have hs0 : sl ≤ room_1.slots := by show sl ≤ 7293034; omega
  have hc1 : ce + 1 ≤ room_1.cells := by show ce + 1 ≤ 601024; omega
  have hs1 : sl + 6 ≤ room_1.slots := by show sl + 6 ≤ 7293034; omega
  refine lv_aload_n hx hb dL_law_2362 rfl (lv_at hl 1 rfl) ?_
  refine lv_aload_n hx hb dL_law_2363 rfl (lv_at hl 0 rfl) ?_
  refine lv_iload hx hb dL_law_2364 (lv_at hl 4 rfl) ?_
  refine lv_iconst (v := (1 : Int32)) hx hb dL_law_2366 (by decide) ?_
  refine lv_iadd hx hb dL_law_2367 ?_
  refine va_sld hx hb hX9 hbl hbA hS (zin_L hi hL hiI 1 (by decide) (1 : Int32) rfl) dL_law_2368 ?_
  refine lv_topi (fun x1 ex1 => ?_)
  refine lv_aload_n hx hb dL_law_2369 rfl (lv_at hl 3 rfl) ?_
  obtain ⟨e, bb, q', w', fr', g', re', fi', ro', im', sz', lh', lp', e1, e2, hA, hI'⟩ := zI_cover K hK9 hI q fr cz lh lp x1 th
  unfold zapg at e1
  refine z_callW (wc := (ao, zoc tt vo) :: wL tt a b d wd fa od hd qc qs bc bs tl rl H q w fr tr g re fi ro im r pk cz lh lp se md ff) (wr := wM tt c now before chg th row comes layer rounds value place places made lq left gone) (As := [.ref (a 0), .int x1, .ref ao]) (rest := []) ⟨hx, hb, hml, hown, hts⟩ hK hN hX hNc hP hD hS hA9 (mL_cover l G tt sa hlt H0.size K a b d wd fa od hd qc qs bc bs tl rl H q w fr tr g re fi ro im r pk cz lh lp se md ff x1 ao vo _ e1 bb hA) (vx_cwSW 3 hts gL_law_L_cover rfl rfl rfl (by decide +kernel) ⟨Nat.le_of_ble_eq_true rfl, Nat.le_of_ble_eq_true rfl⟩) rfl hl.1 rfl (Nat.le_of_ble_eq_true rfl) dL_law_2370 ⟨hc1, hs1⟩ (fun rr u H0 locs hw hP hD hS => ?_)
  obtain ⟨hw1, hw2⟩ := hw
  replace hw1 := hw1.symm; subst hw1
  replace hw2 := hw2.symm; subst hw2
  have hP : va_P G vwCl (wM tt c now before chg th row comes layer rounds value place places made lq left gone ++ ((ao, zoc tt (zout Int32.toInt64 vo e)) :: wL tt a b d wd fa od hd qc qs bc bs tl rl H q' w' fr' tr g' re' fi' ro' im' r pk sz' lh' lp' se md ff)) H0 := hP
  have hD : va_D (fun q : Nat => s.heap.size ≤ q) (wM tt c now before chg th row comes layer rounds value place places made lq left gone ++ ((ao, zoc tt (zout Int32.toInt64 vo e)) :: wL tt a b d wd fa od hd qc qs bc bs tl rl H q' w' fr' tr g' re' fi' ro' im' r pk sz' lh' lp' se md ff)) := hD
  refine lv_istore (lv' := [(5, .int bb.2), (0, .ref sb), (1, .ref (a 0)), (2, .ref (c 0)), (3, .ref ao), (4, .int iI)]) hx hb dL_law_2373 hl (by decide) rfl (fun ls hl => ?_)
  refine lv_aload_n hx hb dL_law_2375 rfl (lv_at hl 3 rfl) ?_
  refine lv_aload_n hx hb dL_law_2376 rfl (lv_at hl 1 rfl) ?_
  refine lv_iload hx hb dL_law_2377 (lv_at hl 5 rfl) ?_
  refine lv_iconst (v := (1 : Int32)) hx hb dL_law_2379 (by decide) ?_
  refine lv_iadd hx hb dL_law_2380 ?_
  refine va_sld hx hb hX9 hbl hbA hS (zin_L hi hL hiI 1 (by decide) (1 : Int32) rfl) dL_law_2381 ?_
  refine lv_topi (fun x2 ex2 => ?_)
  obtain rfl : x2 = x1 := ex2.trans ex1.symm
  refine z_callVi (wc := wM tt c now before chg th row comes layer rounds value place places made lq left gone) (wr := (ao, zoc tt (zout Int32.toInt64 vo e)) :: wL tt a b d wd fa od hd qc qs bc bs tl rl H q' w' fr' tr g' re' fi' ro' im' r pk sz' lh' lp' se md ff) (As := [.int x2]) (rest := []) (ci := 11) ⟨hx, hb, hml, hown, hts⟩ hK hN hP hD hS hA9 (nX12_cover l G tt H0.size K c now before chg th row comes layer rounds value place places made lq left gone x2 _ e2) (cwV 1 hts gL_law_X12_cover rfl rfl rfl (by decide +kernel) ⟨Nat.le_of_ble_eq_true rfl, Nat.le_of_ble_eq_true rfl⟩) rfl rfl rfl hl.1 rfl (Nat.le_of_ble_eq_true rfl) dL_law_2382 ⟨hc1, hs1⟩ (fun rr u H0 locs hw hP hD hS => ?_)
  obtain ⟨hw1, hw2⟩ := hw
  replace hw1 := hw1.symm; subst hw1
  replace hw2 := hw2.symm; subst hw2
  have hP : va_P G vwCl (((ao, zoc tt (zout Int32.toInt64 vo e)) :: wL tt a b d wd fa od hd qc qs bc bs tl rl H q' w' fr' tr g' re' fi' ro' im' r pk sz' lh' lp' se md ff) ++ wM tt c now before chg bb.2 row comes layer rounds value place places made lq left gone) H0 := hP
  have hD : va_D (fun q : Nat => s.heap.size ≤ q) (((ao, zoc tt (zout Int32.toInt64 vo e)) :: wL tt a b d wd fa od hd qc qs bc bs tl rl H q' w' fr' tr g' re' fi' ro' im' r pk sz' lh' lp' se md ff) ++ wM tt c now before chg bb.2 row comes layer rounds value place places made lq left gone) := hD
  refine lv_istore (lv' := [(6, .int bb.1), (5, .int bb.2), (0, .ref sb), (1, .ref (a 0)), (2, .ref (c 0)), (3, .ref ao), (4, .int iI)]) hx hb dL_law_2385 hl (by decide) rfl (fun ls hl => ?_)
  refine lv_aload_n hx hb dL_law_2387 rfl (lv_at hl 4 rfl) ?_
  have hP := zP_perm (List.perm_append_comm (l₁ := (ao, zoc tt (zout Int32.toInt64 vo e)) :: wL tt a b d wd fa od hd qc qs bc bs tl rl H q' w' fr' tr g' re' fi' ro' im' r pk sz' lh' lp' se md ff) (l₂ := wM tt c now before chg bb.2 row comes layer rounds value place places made lq left gone)) hP
  have hD := zD_perm (List.perm_append_comm (l₁ := (ao, zoc tt (zout Int32.toInt64 vo e)) :: wL tt a b d wd fa od hd qc qs bc bs tl rl H q' w' fr' tr g' re' fi' ro' im' r pk sz' lh' lp' se md ff) (l₂ := wM tt c now before chg bb.2 row comes layer rounds value place places made lq left gone)) hD
  refine z_callVi (wc := wM tt c now before chg bb.2 row comes layer rounds value place places made lq left gone) (wr := (ao, zoc tt (zout Int32.toInt64 vo e)) :: wL tt a b d wd fa od hd qc qs bc bs tl rl H q' w' fr' tr g' re' fi' ro' im' r pk sz' lh' lp' se md ff) (As := []) (rest := []) (ci := 11) ⟨hx, hb, hml, hown, hts⟩ hK hN hP hD hS hA9 (nX12_thrown l G tt H0.size c now before chg bb.2 row comes layer rounds value place places made lq left gone bb.2 rfl) (cwV 0 hts gL_law_X12_thrown rfl rfl rfl (by decide +kernel) ⟨Nat.le_of_ble_eq_true rfl, Nat.le_of_ble_eq_true rfl⟩) rfl rfl rfl hl.1 rfl (Nat.le_of_ble_eq_true rfl) dL_law_2388 ⟨hc1, hs1⟩ (fun rr u H0 locs hw hP hD hS => ?_)
  replace hw := hw.symm; subst hw
  have hP : va_P G vwCl (((ao, zoc tt (zout Int32.toInt64 vo e)) :: wL tt a b d wd fa od hd qc qs bc bs tl rl H q' w' fr' tr g' re' fi' ro' im' r pk sz' lh' lp' se md ff) ++ wM tt c now before chg bb.2 row comes layer rounds value place places made lq left gone) H0 := hP
  have hD : va_D (fun q : Nat => s.heap.size ≤ q) (((ao, zoc tt (zout Int32.toInt64 vo e)) :: wL tt a b d wd fa od hd qc qs bc bs tl rl H q' w' fr' tr g' re' fi' ro' im' r pk sz' lh' lp' se md ff) ++ wM tt c now before chg bb.2 row comes layer rounds value place places made lq left gone) := hD
  refine lv_iload hx hb dL_law_2391 (lv_at hl 1 rfl) ?_
  refine lv_icmp_eq (tgt := 2398) hx hb dL_law_2393 (by decide) (fun _ => ?_) (fun h9 => absurd rfl h9)
  refine lv_iload hx hb dL_law_2398 (lv_at hl 1 rfl) ?_
  rcases hA with ⟨k9, hk9, ek, rfl⟩ | ⟨v9, ev, rfl⟩
  · refine lv_if_ne (tgt := 2415) hx hb dL_law_2400 (by decide) (fun _ => ?_) (fun h9 => absurd h9 (fun h => zcd_ne k9 h))
    refine lv_goto (tgt := 2784) hx hb dL_law_2415 (by decide) ?_
    refine z_widen (k := ce + 4) (n := sl + 24) (by omega) (by omega) ?_
    exact kk H0 locs ls ⟨wd, fa, od, hd, qc, qs, bc, bs, tl, rl, H, q', w', fr', tr, g', re', fi', ro', im', r, pk, sz', lh', lp', se, md, ff, now, before, chg, _, row, comes, layer, rounds, value, place, places, made, lq, left, gone, (zout Int32.toInt64 vo e), hI', hP, hD⟩ hS (lv_sub hl [2, 3, 4, 5, 6] rfl)
  · refine lv_if_ne (tgt := 2415) hx hb dL_law_2400 (by decide) (fun h9 => absurd rfl h9) (fun _ => ?_)
    refine lv_aload_n hx hb dL_law_2403 rfl (lv_at hl 5 rfl) ?_
    refine lv_iconst (v := (0 : Int32)) hx hb dL_law_2404 (by decide) ?_
    refine va_lald hx hb hK hP 0 1 rfl rfl (inB_vp (by decide)) dL_law_2405 ?_
    refine lv_iload hx hb dL_law_2406 (lv_at hl 0 rfl) ?_
    refine lv_i2l hx hb dL_law_2408 rfl ?_
    refine W.lcmp hx hb dL_law_2409 ?_
    refine lv_if_eq (tgt := 2415) hx hb dL_law_2410 (by decide) (fun _ => ?_) (fun h9 => absurd ((lg_cmp_eq _ _).mpr (by subst ev; exact (zout_at Int32.toInt64 vo v9))) h9)
    refine lv_goto (tgt := 2784) hx hb dL_law_2415 (by decide) ?_
    refine z_widen (k := ce + 4) (n := sl + 24) (by omega) (by omega) ?_
    exact kk H0 locs ls ⟨wd, fa, od, hd, qc, qs, bc, bs, tl, rl, H, q', w', fr', tr, g', re', fi', ro', im', r, pk, sz', lh', lp', se, md, ff, now, before, chg, _, row, comes, layer, rounds, value, place, places, made, lq, left, gone, (zout Int32.toInt64 vo e), hI', hP, hD⟩ hS (lv_sub hl [2, 3, 4, 5, 6] rfl)

set_option maxHeartbeats 4000000 in
set_option maxRecDepth 100000 in
theorem zarm_bound (K : Nat) (hK9 : 1000000 < K) {p : Program} {l : Launch} {e0 : Env} {s : State} {m : MethodId} {below : List Frame} {meth : Method} {cd : Code} {sb L : Nat} {xs : Nat → Int32} {G : va_G} {tt : Nat → ClassId} {sa : Nat → Nat} (C : zCtx p l s m meth cd sb L xs G tt sa) (a : Nat → Nat) (b : Nat → Nat → Nat) (d : Nat → Nat → Nat → Nat) (c : Nat → Nat) (ao : Nat) {i : Nat} {iI : Int32} (hi : i + 7 ≤ L) (hiI : iI = nI i) {ce sl : Nat} (hce : ce ≤ 600000) (hsl : sl ≤ 7290000) {H0 : Heap} {locs : List Loc} (hw : zWorld G tt a b d c ao (fun q : Nat => s.heap.size ≤ q) H0) (hS : va_S (fun q : Nat => s.heap.size ≤ q) s.heap H0 locs) {ls : Array Slot} (hl : lv_has ls 9 [(0, .ref sb), (1, .ref (a 0)), (2, .ref (c 0)), (3, .ref ao), (4, .int iI)])
    (kk : ∀ (H1 : Heap) (locs1 : List Loc) (ls1 : Array Slot), zWorld G tt a b d c ao (fun q : Nat => s.heap.size ≤ q) H1 → va_S (fun q : Nat => s.heap.size ≤ q) s.heap H1 locs1 → lv_has ls1 9 [(0, .ref sb), (1, .ref (a 0)), (2, .ref (c 0)), (3, .ref ao), (4, .int iI)] → W p l e0 room_1 s m #[Value.ref sb] below meth cd H1 locs1 (ce + 4) (sl + 24) (lw_Z below #[Value.ref sb] s) (F0 m 2784 ls1 [])) :
    W p l e0 room_1 s m #[Value.ref sb] below meth cd H0 locs ce sl (lw_Z below #[Value.ref sb] s) (F0 m 2418 ls []) := by
  obtain ⟨wd, fa, od, hd, qc, qs, bc, bs, tl, rl, H, q, w, fr, tr, g, re, fi, ro, im, r, pk, cz, lh, lp, se, md, ff, now, before, chg, th, row, comes, layer, rounds, value, place, places, made, lq, left, gone, vo, hI, hP, hD⟩ := hw
  obtain ⟨hlt, hL, C0, hK, hN, hX, hNc⟩ := C
  obtain ⟨hx, hb, hr, hml, hown, hts0, hX9, hbl, hlocks, hgv⟩ := C0
  have hts : ∀ w ∈ wsL_law, w.before #[Value.ref sb] s = true := fun w h => hts0 w (zL_law w h)
  have hown : s.vm.findClass RL = some m.cls := hown
  have hA9 : ∀ q : Nat, s.heap.size ≤ q → (fun q : Nat => s.heap.size ≤ q) q := fun _ h => h
  have hbA : ¬ (fun q : Nat => s.heap.size ≤ q) sb := Nat.not_le.mpr hbl
  have hc0 : ce ≤ room_1.cells := by show ce ≤ 601024; omega
  have hs0 : sl ≤ room_1.slots := by show sl ≤ 7293034; omega
  have hc1 : ce + 1 ≤ room_1.cells := by show ce + 1 ≤ 601024; omega
  have hs1 : sl + 6 ≤ room_1.slots := by show sl + 6 ≤ 7293034; omega
  refine lv_aload_n hx hb dL_law_2418 rfl (lv_at hl 1 rfl) ?_
  refine lv_aload_n hx hb dL_law_2419 rfl (lv_at hl 0 rfl) ?_
  refine lv_iload hx hb dL_law_2420 (lv_at hl 4 rfl) ?_
  refine lv_iconst (v := (1 : Int32)) hx hb dL_law_2422 (by decide) ?_
  refine lv_iadd hx hb dL_law_2423 ?_
  refine va_sld hx hb hX9 hbl hbA hS (zin_L hi hL hiI 1 (by decide) (1 : Int32) rfl) dL_law_2424 ?_
  refine lv_topi (fun x1 ex1 => ?_)
  refine lv_aload_n hx hb dL_law_2425 rfl (lv_at hl 3 rfl) ?_
  obtain ⟨e, bb, q', w', fr', g', re', fi', ro', im', sz', lh', lp', e1, e2, hA, hI'⟩ := zI_bound K hK9 hI q fr cz lh lp x1 th place
  unfold zapg at e1
  refine z_callW (wc := (ao, zoc tt vo) :: wL tt a b d wd fa od hd qc qs bc bs tl rl H q w fr tr g re fi ro im r pk cz lh lp se md ff) (wr := wM tt c now before chg th row comes layer rounds value place places made lq left gone) (As := [.ref (a 0), .int x1, .ref ao]) (rest := []) ⟨hx, hb, hml, hown, hts⟩ hK hN hX hNc hP hD hS hA9 (mL_bound l G tt sa hlt H0.size K a b d wd fa od hd qc qs bc bs tl rl H q w fr tr g re fi ro im r pk cz lh lp se md ff x1 ao vo _ e1 bb hA) (vx_cwSW 3 hts gL_law_L_bound rfl rfl rfl (by decide +kernel) ⟨Nat.le_of_ble_eq_true rfl, Nat.le_of_ble_eq_true rfl⟩) rfl hl.1 rfl (Nat.le_of_ble_eq_true rfl) dL_law_2426 ⟨hc1, hs1⟩ (fun rr u H0 locs hw hP hD hS => ?_)
  obtain ⟨hw1, hw2⟩ := hw
  replace hw1 := hw1.symm; subst hw1
  replace hw2 := hw2.symm; subst hw2
  have hP : va_P G vwCl (wM tt c now before chg th row comes layer rounds value place places made lq left gone ++ ((ao, zoc tt (zout id vo e)) :: wL tt a b d wd fa od hd qc qs bc bs tl rl H q' w' fr' tr g' re' fi' ro' im' r pk sz' lh' lp' se md ff)) H0 := hP
  have hD : va_D (fun q : Nat => s.heap.size ≤ q) (wM tt c now before chg th row comes layer rounds value place places made lq left gone ++ ((ao, zoc tt (zout id vo e)) :: wL tt a b d wd fa od hd qc qs bc bs tl rl H q' w' fr' tr g' re' fi' ro' im' r pk sz' lh' lp' se md ff)) := hD
  refine lv_istore (lv' := [(5, .int bb.2), (0, .ref sb), (1, .ref (a 0)), (2, .ref (c 0)), (3, .ref ao), (4, .int iI)]) hx hb dL_law_2429 hl (by decide) rfl (fun ls hl => ?_)
  refine lv_aload_n hx hb dL_law_2431 rfl (lv_at hl 3 rfl) ?_
  refine lv_aload_n hx hb dL_law_2432 rfl (lv_at hl 1 rfl) ?_
  refine lv_iload hx hb dL_law_2433 (lv_at hl 5 rfl) ?_
  refine lv_iconst (v := (1 : Int32)) hx hb dL_law_2435 (by decide) ?_
  refine lv_iadd hx hb dL_law_2436 ?_
  refine va_sld hx hb hX9 hbl hbA hS (zin_L hi hL hiI 1 (by decide) (1 : Int32) rfl) dL_law_2437 ?_
  refine lv_topi (fun x2 ex2 => ?_)
  obtain rfl : x2 = x1 := ex2.trans ex1.symm
  refine z_callVl (wc := wM tt c now before chg th row comes layer rounds value place places made lq left gone) (wr := (ao, zoc tt (zout id vo e)) :: wL tt a b d wd fa od hd qc qs bc bs tl rl H q' w' fr' tr g' re' fi' ro' im' r pk sz' lh' lp' se md ff) (As := [.int x2]) (rest := []) (ci := 11) ⟨hx, hb, hml, hown, hts⟩ hK hN hP hD hS hA9 (nX12_bound l G tt H0.size K c now before chg th row comes layer rounds value place places made lq left gone x2 _ e2) (cwV 1 hts gL_law_X12_bound rfl rfl rfl (by decide +kernel) ⟨Nat.le_of_ble_eq_true rfl, Nat.le_of_ble_eq_true rfl⟩) rfl rfl rfl hl.1 rfl (Nat.le_of_ble_eq_true rfl) dL_law_2438 ⟨hc1, hs1⟩ (fun rr u H0 locs hw hP hD hS => ?_)
  obtain ⟨hw1, hw2⟩ := hw
  replace hw1 := hw1.symm; subst hw1
  replace hw2 := hw2.symm; subst hw2
  have hP : va_P G vwCl (((ao, zoc tt (zout id vo e)) :: wL tt a b d wd fa od hd qc qs bc bs tl rl H q' w' fr' tr g' re' fi' ro' im' r pk sz' lh' lp' se md ff) ++ wM tt c now before chg bb.2 row comes layer rounds value place places made lq left gone) H0 := hP
  have hD : va_D (fun q : Nat => s.heap.size ≤ q) (((ao, zoc tt (zout id vo e)) :: wL tt a b d wd fa od hd qc qs bc bs tl rl H q' w' fr' tr g' re' fi' ro' im' r pk sz' lh' lp' se md ff) ++ wM tt c now before chg bb.2 row comes layer rounds value place places made lq left gone) := hD
  refine lv_lstore (lv' := [(6, .long bb.1), (5, .int bb.2), (0, .ref sb), (1, .ref (a 0)), (2, .ref (c 0)), (3, .ref ao), (4, .int iI)]) hx hb dL_law_2441 hl (by decide) rfl (fun ls hl => ?_)
  refine lv_aload_n hx hb dL_law_2443 rfl (lv_at hl 4 rfl) ?_
  have hP := zP_perm (List.perm_append_comm (l₁ := (ao, zoc tt (zout id vo e)) :: wL tt a b d wd fa od hd qc qs bc bs tl rl H q' w' fr' tr g' re' fi' ro' im' r pk sz' lh' lp' se md ff) (l₂ := wM tt c now before chg bb.2 row comes layer rounds value place places made lq left gone)) hP
  have hD := zD_perm (List.perm_append_comm (l₁ := (ao, zoc tt (zout id vo e)) :: wL tt a b d wd fa od hd qc qs bc bs tl rl H q' w' fr' tr g' re' fi' ro' im' r pk sz' lh' lp' se md ff) (l₂ := wM tt c now before chg bb.2 row comes layer rounds value place places made lq left gone)) hD
  refine z_callVi (wc := wM tt c now before chg bb.2 row comes layer rounds value place places made lq left gone) (wr := (ao, zoc tt (zout id vo e)) :: wL tt a b d wd fa od hd qc qs bc bs tl rl H q' w' fr' tr g' re' fi' ro' im' r pk sz' lh' lp' se md ff) (As := []) (rest := []) (ci := 11) ⟨hx, hb, hml, hown, hts⟩ hK hN hP hD hS hA9 (nX12_thrown l G tt H0.size c now before chg bb.2 row comes layer rounds value place places made lq left gone bb.2 rfl) (cwV 0 hts gL_law_X12_thrown rfl rfl rfl (by decide +kernel) ⟨Nat.le_of_ble_eq_true rfl, Nat.le_of_ble_eq_true rfl⟩) rfl rfl rfl hl.1 rfl (Nat.le_of_ble_eq_true rfl) dL_law_2444 ⟨hc1, hs1⟩ (fun rr u H0 locs hw hP hD hS => ?_)
  replace hw := hw.symm; subst hw
  have hP : va_P G vwCl (((ao, zoc tt (zout id vo e)) :: wL tt a b d wd fa od hd qc qs bc bs tl rl H q' w' fr' tr g' re' fi' ro' im' r pk sz' lh' lp' se md ff) ++ wM tt c now before chg bb.2 row comes layer rounds value place places made lq left gone) H0 := hP
  have hD : va_D (fun q : Nat => s.heap.size ≤ q) (((ao, zoc tt (zout id vo e)) :: wL tt a b d wd fa od hd qc qs bc bs tl rl H q' w' fr' tr g' re' fi' ro' im' r pk sz' lh' lp' se md ff) ++ wM tt c now before chg bb.2 row comes layer rounds value place places made lq left gone) := hD
  refine lv_iload hx hb dL_law_2447 (lv_at hl 1 rfl) ?_
  refine lv_icmp_eq (tgt := 2454) hx hb dL_law_2449 (by decide) (fun _ => ?_) (fun h9 => absurd rfl h9)
  refine lv_iload hx hb dL_law_2454 (lv_at hl 1 rfl) ?_
  rcases hA with ⟨k9, hk9, ek, rfl⟩ | ⟨v9, ev, rfl⟩
  · refine lv_if_ne (tgt := 2470) hx hb dL_law_2456 (by decide) (fun _ => ?_) (fun h9 => absurd h9 (fun h => zcd_ne k9 h))
    refine lv_goto (tgt := 2784) hx hb dL_law_2470 (by decide) ?_
    refine z_widen (k := ce + 4) (n := sl + 24) (by omega) (by omega) ?_
    exact kk H0 locs ls ⟨wd, fa, od, hd, qc, qs, bc, bs, tl, rl, H, q', w', fr', tr, g', re', fi', ro', im', r, pk, sz', lh', lp', se, md, ff, now, before, chg, _, row, comes, layer, rounds, value, place, places, made, lq, left, gone, (zout id vo e), hI', hP, hD⟩ hS (lv_sub hl [2, 3, 4, 5, 6] rfl)
  · refine lv_if_ne (tgt := 2470) hx hb dL_law_2456 (by decide) (fun h9 => absurd rfl h9) (fun _ => ?_)
    refine lv_aload_n hx hb dL_law_2459 rfl (lv_at hl 5 rfl) ?_
    refine lv_iconst (v := (0 : Int32)) hx hb dL_law_2460 (by decide) ?_
    refine va_lald hx hb hK hP 0 1 rfl rfl (inB_vp (by decide)) dL_law_2461 ?_
    refine lv_lload hx hb dL_law_2462 (lv_at hl 0 rfl) ?_
    refine W.lcmp hx hb dL_law_2464 ?_
    refine lv_if_eq (tgt := 2470) hx hb dL_law_2465 (by decide) (fun _ => ?_) (fun h9 => absurd ((lg_cmp_eq _ _).mpr (by subst ev; exact (zout_at id vo v9))) h9)
    refine lv_goto (tgt := 2784) hx hb dL_law_2470 (by decide) ?_
    refine z_widen (k := ce + 4) (n := sl + 24) (by omega) (by omega) ?_
    exact kk H0 locs ls ⟨wd, fa, od, hd, qc, qs, bc, bs, tl, rl, H, q', w', fr', tr, g', re', fi', ro', im', r, pk, sz', lh', lp', se, md, ff, now, before, chg, _, row, comes, layer, rounds, value, place, places, made, lq, left, gone, (zout id vo e), hI', hP, hD⟩ hS (lv_sub hl [2, 3, 4, 5, 6] rfl)
