/-! the arms of the law's loop -/
set_option maxHeartbeats 4000000 in
set_option maxRecDepth 100000 in
theorem zarm_dropRule (K : Nat) (hK9 : 1000000 < K) {p : Program} {l : Launch} {e0 : Env} {s : State} {m : MethodId} {below : List Frame} {meth : Method} {cd : Code} {sb L : Nat} {xs : Nat → Int32} {G : va_G} {tt : Nat → ClassId} {sa : Nat → Nat} (C : zCtx p l s m meth cd sb L xs G tt sa) (a : Nat → Nat) (b : Nat → Nat → Nat) (d : Nat → Nat → Nat → Nat) (c : Nat → Nat) (ao : Nat) {i : Nat} {iI : Int32} (hi : i + 7 ≤ L) (hiI : iI = nI i) {ce sl : Nat} (hce : ce ≤ 600000) (hsl : sl ≤ 7290000) {H0 : Heap} {locs : List Loc} (hw : zWorld G tt a b d c ao (fun q : Nat => s.heap.size ≤ q) H0) (hS : va_S (fun q : Nat => s.heap.size ≤ q) s.heap H0 locs) {ls : Array Slot} (hl : lv_has ls 9 [(0, .ref sb), (1, .ref (a 0)), (2, .ref (c 0)), (3, .ref ao), (4, .int iI)])
    (kk : ∀ (H1 : Heap) (locs1 : List Loc) (ls1 : Array Slot), zWorld G tt a b d c ao (fun q : Nat => s.heap.size ≤ q) H1 → va_S (fun q : Nat => s.heap.size ≤ q) s.heap H1 locs1 → lv_has ls1 9 [(0, .ref sb), (1, .ref (a 0)), (2, .ref (c 0)), (3, .ref ao), (4, .int iI)] → W p l e0 room_1 s m #[Value.ref sb] below meth cd H1 locs1 (ce + 4) (sl + 24) (lw_Z below #[Value.ref sb] s) (F0 m 2784 ls1 [])) :
    W p l e0 room_1 s m #[Value.ref sb] below meth cd H0 locs ce sl (lw_Z below #[Value.ref sb] s) (F0 m 982 ls []) := by
  obtain ⟨wd, fa, od, hd, qc, qs, bc, bs, tl, rl, H, q, w, fr, tr, g, re, fi, ro, im, r, pk, cz, lh, lp, se, md, ff, now, before, chg, th, row, comes, layer, rounds, value, place, places, made, lq, left, gone, vo, hI, hP, hD⟩ := hw
  obtain ⟨hlt, hL, C0, hK, hN, hX, hNc⟩ := C
  obtain ⟨hx, hb, hr, hml, hown, hts0, hX9, hbl, hlocks, hgv⟩ := C0
  have hts : ∀ w ∈ wsL_law, w.before #[Value.ref sb] s = true := fun w h => hts0 w (zL_law w h)
  have hown : s.vm.findClass RL = some m.cls := hown
  have hA9 : ∀ q : Nat, s.heap.size ≤ q → (fun q : Nat => s.heap.size ≤ q) q := fun _ h => h
  have hbA : ¬ (fun q : Nat => s.heap.size ≤ q) sb := Nat.not_le.mpr hbl
  have hc0 : ce ≤ room_1.cells := by show ce ≤ 601024; omega
  have hs0 : sl ≤ room_1.slots := by show sl ≤ 7293034; omega
  have hc1 : ce + 1 ≤ room_1.cells := by show ce + 1 ≤ 601024; omega
  have hs1 : sl + 6 ≤ room_1.slots := by show sl + 6 ≤ 7293034; omega
  refine lv_aload_n hx hb dL_law_982 rfl (lv_at hl 1 rfl) ?_
  refine lv_aload_n hx hb dL_law_983 rfl (lv_at hl 0 rfl) ?_
  refine lv_iload hx hb dL_law_984 (lv_at hl 4 rfl) ?_
  refine lv_iconst (v := (1 : Int32)) hx hb dL_law_986 (by decide) ?_
  refine lv_iadd hx hb dL_law_987 ?_
  refine va_sld hx hb hX9 hbl hbA hS (zin_L hi hL hiI 1 (by decide) (1 : Int32) rfl) dL_law_988 ?_
  refine lv_topi (fun x1 ex1 => ?_)
  refine lv_aload_n hx hb dL_law_989 rfl (lv_at hl 3 rfl) ?_
  obtain ⟨e, bb, hd', bc', bs', rl', H', im', ff', now', before', chg', row', comes', layer', rounds', value', e1, e2, hA, hI'⟩ := zI_dropRule K hK9 hI comes x1 th
  unfold zaph at e1
  refine z_callW (wc := (ao, zoc tt vo) :: wL tt a b d wd fa od hd qc qs bc bs tl rl H q w fr tr g re fi ro im r pk cz lh lp se md ff) (wr := wM tt c now before chg th row comes layer rounds value place places made lq left gone) (As := [.ref (a 0), .int x1, .ref ao]) (rest := []) ⟨hx, hb, hml, hown, hts⟩ hK hN hX hNc hP hD hS hA9 (mL_dropRule l G tt sa hlt H0.size K a b d wd fa od hd qc qs bc bs tl rl H q w fr tr g re fi ro im r pk cz lh lp se md ff x1 ao vo _ e1 bb hA) (vx_cwSW 3 hts gL_law_L_dropRule rfl rfl rfl (by decide +kernel) ⟨Nat.le_of_ble_eq_true rfl, Nat.le_of_ble_eq_true rfl⟩) rfl hl.1 rfl (Nat.le_of_ble_eq_true rfl) dL_law_990 ⟨hc1, hs1⟩ (fun rr u H0 locs hw hP hD hS => ?_)
  obtain ⟨hw1, hw2⟩ := hw
  replace hw1 := hw1.symm; subst hw1
  replace hw2 := hw2.symm; subst hw2
  have hP : va_P G vwCl (wM tt c now before chg th row comes layer rounds value place places made lq left gone ++ ((ao, zoc tt (zout Int32.toInt64 vo e)) :: wL tt a b d wd fa od hd' qc qs bc' bs' tl rl' H' q w fr tr g re fi ro im' r pk cz lh lp se md ff')) H0 := hP
  have hD : va_D (fun q : Nat => s.heap.size ≤ q) (wM tt c now before chg th row comes layer rounds value place places made lq left gone ++ ((ao, zoc tt (zout Int32.toInt64 vo e)) :: wL tt a b d wd fa od hd' qc qs bc' bs' tl rl' H' q w fr tr g re fi ro im' r pk cz lh lp se md ff')) := hD
  refine lv_istore (lv' := [(5, .int bb.2), (0, .ref sb), (1, .ref (a 0)), (2, .ref (c 0)), (3, .ref ao), (4, .int iI)]) hx hb dL_law_993 hl (by decide) rfl (fun ls hl => ?_)
  refine lv_aload_n hx hb dL_law_995 rfl (lv_at hl 3 rfl) ?_
  refine lv_aload_n hx hb dL_law_996 rfl (lv_at hl 1 rfl) ?_
  refine lv_iload hx hb dL_law_997 (lv_at hl 5 rfl) ?_
  refine lv_iconst (v := (1 : Int32)) hx hb dL_law_999 (by decide) ?_
  refine lv_iadd hx hb dL_law_1000 ?_
  refine va_sld hx hb hX9 hbl hbA hS (zin_L hi hL hiI 1 (by decide) (1 : Int32) rfl) dL_law_1001 ?_
  refine lv_topi (fun x2 ex2 => ?_)
  obtain rfl : x2 = x1 := ex2.trans ex1.symm
  refine z_callVi (wc := wM tt c now before chg th row comes layer rounds value place places made lq left gone) (wr := (ao, zoc tt (zout Int32.toInt64 vo e)) :: wL tt a b d wd fa od hd' qc qs bc' bs' tl rl' H' q w fr tr g re fi ro im' r pk cz lh lp se md ff') (As := [.int x2]) (rest := []) (ci := 11) ⟨hx, hb, hml, hown, hts⟩ hK hN hP hD hS hA9 (nX12_dropRule l G tt H0.size K c now before chg th row comes layer rounds value place places made lq left gone x2 _ e2) (cwV 1 hts gL_law_X12_dropRule rfl rfl rfl (by decide +kernel) ⟨Nat.le_of_ble_eq_true rfl, Nat.le_of_ble_eq_true rfl⟩) rfl rfl rfl hl.1 rfl (Nat.le_of_ble_eq_true rfl) dL_law_1002 ⟨hc1, hs1⟩ (fun rr u H0 locs hw hP hD hS => ?_)
  obtain ⟨hw1, hw2⟩ := hw
  replace hw1 := hw1.symm; subst hw1
  replace hw2 := hw2.symm; subst hw2
  have hP : va_P G vwCl (((ao, zoc tt (zout Int32.toInt64 vo e)) :: wL tt a b d wd fa od hd' qc qs bc' bs' tl rl' H' q w fr tr g re fi ro im' r pk cz lh lp se md ff') ++ wM tt c now' before' chg' bb.2 row' comes' layer' rounds' value' place places made lq left gone) H0 := hP
  have hD : va_D (fun q : Nat => s.heap.size ≤ q) (((ao, zoc tt (zout Int32.toInt64 vo e)) :: wL tt a b d wd fa od hd' qc qs bc' bs' tl rl' H' q w fr tr g re fi ro im' r pk cz lh lp se md ff') ++ wM tt c now' before' chg' bb.2 row' comes' layer' rounds' value' place places made lq left gone) := hD
  refine lv_istore (lv' := [(6, .int bb.1), (5, .int bb.2), (0, .ref sb), (1, .ref (a 0)), (2, .ref (c 0)), (3, .ref ao), (4, .int iI)]) hx hb dL_law_1005 hl (by decide) rfl (fun ls hl => ?_)
  refine lv_aload_n hx hb dL_law_1007 rfl (lv_at hl 4 rfl) ?_
  have hP := zP_perm (List.perm_append_comm (l₁ := (ao, zoc tt (zout Int32.toInt64 vo e)) :: wL tt a b d wd fa od hd' qc qs bc' bs' tl rl' H' q w fr tr g re fi ro im' r pk cz lh lp se md ff') (l₂ := wM tt c now' before' chg' bb.2 row' comes' layer' rounds' value' place places made lq left gone)) hP
  have hD := zD_perm (List.perm_append_comm (l₁ := (ao, zoc tt (zout Int32.toInt64 vo e)) :: wL tt a b d wd fa od hd' qc qs bc' bs' tl rl' H' q w fr tr g re fi ro im' r pk cz lh lp se md ff') (l₂ := wM tt c now' before' chg' bb.2 row' comes' layer' rounds' value' place places made lq left gone)) hD
  refine z_callVi (wc := wM tt c now' before' chg' bb.2 row' comes' layer' rounds' value' place places made lq left gone) (wr := (ao, zoc tt (zout Int32.toInt64 vo e)) :: wL tt a b d wd fa od hd' qc qs bc' bs' tl rl' H' q w fr tr g re fi ro im' r pk cz lh lp se md ff') (As := []) (rest := []) (ci := 11) ⟨hx, hb, hml, hown, hts⟩ hK hN hP hD hS hA9 (nX12_thrown l G tt H0.size c now' before' chg' bb.2 row' comes' layer' rounds' value' place places made lq left gone bb.2 rfl) (cwV 0 hts gL_law_X12_thrown rfl rfl rfl (by decide +kernel) ⟨Nat.le_of_ble_eq_true rfl, Nat.le_of_ble_eq_true rfl⟩) rfl rfl rfl hl.1 rfl (Nat.le_of_ble_eq_true rfl) dL_law_1008 ⟨hc1, hs1⟩ (fun rr u H0 locs hw hP hD hS => ?_)
  replace hw := hw.symm; subst hw
  have hP : va_P G vwCl (((ao, zoc tt (zout Int32.toInt64 vo e)) :: wL tt a b d wd fa od hd' qc qs bc' bs' tl rl' H' q w fr tr g re fi ro im' r pk cz lh lp se md ff') ++ wM tt c now' before' chg' bb.2 row' comes' layer' rounds' value' place places made lq left gone) H0 := hP
  have hD : va_D (fun q : Nat => s.heap.size ≤ q) (((ao, zoc tt (zout Int32.toInt64 vo e)) :: wL tt a b d wd fa od hd' qc qs bc' bs' tl rl' H' q w fr tr g re fi ro im' r pk cz lh lp se md ff') ++ wM tt c now' before' chg' bb.2 row' comes' layer' rounds' value' place places made lq left gone) := hD
  refine lv_iload hx hb dL_law_1011 (lv_at hl 1 rfl) ?_
  refine lv_icmp_eq (tgt := 1018) hx hb dL_law_1013 (by decide) (fun _ => ?_) (fun h9 => absurd rfl h9)
  refine lv_iload hx hb dL_law_1018 (lv_at hl 1 rfl) ?_
  rcases hA with ⟨k9, hk9, ek, rfl⟩ | ⟨v9, ev, rfl⟩
  · refine lv_if_ne (tgt := 1035) hx hb dL_law_1020 (by decide) (fun _ => ?_) (fun h9 => absurd h9 (fun h => zcd_ne k9 h))
    refine lv_goto (tgt := 2784) hx hb dL_law_1035 (by decide) ?_
    refine z_widen (k := ce + 4) (n := sl + 24) (by omega) (by omega) ?_
    exact kk H0 locs ls ⟨wd, fa, od, hd', qc, qs, bc', bs', tl, rl', H', q, w, fr, tr, g, re, fi, ro, im', r, pk, cz, lh, lp, se, md, ff', now', before', chg', _, row', comes', layer', rounds', value', place, places, made, lq, left, gone, (zout Int32.toInt64 vo e), hI', hP, hD⟩ hS (lv_sub hl [2, 3, 4, 5, 6] rfl)
  · refine lv_if_ne (tgt := 1035) hx hb dL_law_1020 (by decide) (fun h9 => absurd rfl h9) (fun _ => ?_)
    refine lv_aload_n hx hb dL_law_1023 rfl (lv_at hl 5 rfl) ?_
    refine lv_iconst (v := (0 : Int32)) hx hb dL_law_1024 (by decide) ?_
    refine va_lald hx hb hK hP 0 1 rfl rfl (inB_vp (by decide)) dL_law_1025 ?_
    refine lv_iload hx hb dL_law_1026 (lv_at hl 0 rfl) ?_
    refine lv_i2l hx hb dL_law_1028 rfl ?_
    refine W.lcmp hx hb dL_law_1029 ?_
    refine lv_if_eq (tgt := 1035) hx hb dL_law_1030 (by decide) (fun _ => ?_) (fun h9 => absurd ((lg_cmp_eq _ _).mpr (by subst ev; exact (zout_at Int32.toInt64 vo v9))) h9)
    refine lv_goto (tgt := 2784) hx hb dL_law_1035 (by decide) ?_
    refine z_widen (k := ce + 4) (n := sl + 24) (by omega) (by omega) ?_
    exact kk H0 locs ls ⟨wd, fa, od, hd', qc, qs, bc', bs', tl, rl', H', q, w, fr, tr, g, re, fi, ro, im', r, pk, cz, lh, lp, se, md, ff', now', before', chg', _, row', comes', layer', rounds', value', place, places, made, lq, left, gone, (zout Int32.toInt64 vo e), hI', hP, hD⟩ hS (lv_sub hl [2, 3, 4, 5, 6] rfl)

set_option maxHeartbeats 4000000 in
set_option maxRecDepth 100000 in
theorem zarm_undo (K : Nat) (hK9 : 1000000 < K) {p : Program} {l : Launch} {e0 : Env} {s : State} {m : MethodId} {below : List Frame} {meth : Method} {cd : Code} {sb L : Nat} {xs : Nat → Int32} {G : va_G} {tt : Nat → ClassId} {sa : Nat → Nat} (C : zCtx p l s m meth cd sb L xs G tt sa) (a : Nat → Nat) (b : Nat → Nat → Nat) (d : Nat → Nat → Nat → Nat) (c : Nat → Nat) (ao : Nat) {i : Nat} {iI : Int32} (hi : i + 7 ≤ L) (hiI : iI = nI i) {ce sl : Nat} (hce : ce ≤ 600000) (hsl : sl ≤ 7290000) {H0 : Heap} {locs : List Loc} (hw : zWorld G tt a b d c ao (fun q : Nat => s.heap.size ≤ q) H0) (hS : va_S (fun q : Nat => s.heap.size ≤ q) s.heap H0 locs) {ls : Array Slot} (hl : lv_has ls 9 [(0, .ref sb), (1, .ref (a 0)), (2, .ref (c 0)), (3, .ref ao), (4, .int iI)])
    (kk : ∀ (H1 : Heap) (locs1 : List Loc) (ls1 : Array Slot), zWorld G tt a b d c ao (fun q : Nat => s.heap.size ≤ q) H1 → va_S (fun q : Nat => s.heap.size ≤ q) s.heap H1 locs1 → lv_has ls1 9 [(0, .ref sb), (1, .ref (a 0)), (2, .ref (c 0)), (3, .ref ao), (4, .int iI)] → W p l e0 room_1 s m #[Value.ref sb] below meth cd H1 locs1 (ce + 4) (sl + 24) (lw_Z below #[Value.ref sb] s) (F0 m 2784 ls1 [])) :
    W p l e0 room_1 s m #[Value.ref sb] below meth cd H0 locs ce sl (lw_Z below #[Value.ref sb] s) (F0 m 1038 ls []) := by
  obtain ⟨wd, fa, od, hd, qc, qs, bc, bs, tl, rl, H, q, w, fr, tr, g, re, fi, ro, im, r, pk, cz, lh, lp, se, md, ff, now, before, chg, th, row, comes, layer, rounds, value, place, places, made, lq, left, gone, vo, hI, hP, hD⟩ := hw
  obtain ⟨hlt, hL, C0, hK, hN, hX, hNc⟩ := C
  obtain ⟨hx, hb, hr, hml, hown, hts0, hX9, hbl, hlocks, hgv⟩ := C0
  have hts : ∀ w ∈ wsL_law, w.before #[Value.ref sb] s = true := fun w h => hts0 w (zL_law w h)
  have hown : s.vm.findClass RL = some m.cls := hown
  have hA9 : ∀ q : Nat, s.heap.size ≤ q → (fun q : Nat => s.heap.size ≤ q) q := fun _ h => h
  have hbA : ¬ (fun q : Nat => s.heap.size ≤ q) sb := Nat.not_le.mpr hbl
  have hc0 : ce ≤ room_1.cells := by show ce ≤ 601024; omega
  have hs0 : sl ≤ room_1.slots := by show sl ≤ 7293034; omega
  have hc1 : ce + 0 ≤ room_1.cells := by show ce + 0 ≤ 601024; omega
  have hs1 : sl + 0 ≤ room_1.slots := by show sl + 0 ≤ 7293034; omega
  refine lv_aload_n hx hb dL_law_1038 rfl (lv_at hl 1 rfl) ?_
  obtain ⟨a9, wd', fa', od', hd', qc', qs', bc', bs', tl', rl', nx', kp', im', ff', now', chg', row', comes', layer', rounds', value', e1, e2, hI'⟩ := zI_undo K hK9 hI comes th
  have hP := zP_perm (List.perm_middle (a := (ao, zoc tt vo)) (l₁ := wL tt a b d wd fa od hd qc qs bc bs tl rl H q w fr tr g re fi ro im r pk cz lh lp se md ff) (l₂ := wM tt c now before chg th row comes layer rounds value place places made lq left gone)).symm hP
  have hD := zD_perm (List.perm_middle (a := (ao, zoc tt vo)) (l₁ := wL tt a b d wd fa od hd qc qs bc bs tl rl H q w fr tr g re fi ro im r pk cz lh lp se md ff) (l₂ := wM tt c now before chg th row comes layer rounds value place places made lq left gone)).symm hD
  refine z_callVi (wc := wL tt a b d wd fa od hd qc qs bc bs tl rl H q w fr tr g re fi ro im r pk cz lh lp se md ff) (wr := (ao, zoc tt vo) :: wM tt c now before chg th row comes layer rounds value place places made lq left gone) (As := []) (rest := []) (ci := 10) ⟨hx, hb, hml, hown, hts⟩ hK hN hP hD hS hA9 (nX11_undo l G tt H0.size K a b d wd fa od hd qc qs bc bs tl rl H q w fr tr g re fi ro im r pk cz lh lp se md ff _ e1) (cwV 0 hts gL_law_X11_undo rfl rfl rfl (by decide +kernel) ⟨Nat.le_of_ble_eq_true rfl, Nat.le_of_ble_eq_true rfl⟩) rfl rfl rfl hl.1 rfl (Nat.le_of_ble_eq_true rfl) dL_law_1039 ⟨hc0, hs0⟩ (fun rr u H0 locs hw hP hD hS => ?_)
  obtain ⟨hw1, hw2⟩ := hw
  replace hw1 := hw1.symm; subst hw1
  replace hw2 := hw2.symm; subst hw2
  have hP : va_P G vwCl ((ao, zoc tt vo) :: (wM tt c now before chg th row comes layer rounds value place places made lq left gone ++ wL tt a b d wd' fa' od' hd' qc' qs' bc' bs' tl' rl' (H.1, H.2.1, H.2.2.1, H.2.2.2.1, H.2.2.2.2.1, H.2.2.2.2.2.1, H.2.2.2.2.2.2.1, H.2.2.2.2.2.2.2.1, H.2.2.2.2.2.2.2.2.1, H.2.2.2.2.2.2.2.2.2.1, nx', kp') q w fr tr g re fi ro im' r pk cz lh lp se md ff')) H0 := hP
  have hD : va_D (fun q : Nat => s.heap.size ≤ q) ((ao, zoc tt vo) :: (wM tt c now before chg th row comes layer rounds value place places made lq left gone ++ wL tt a b d wd' fa' od' hd' qc' qs' bc' bs' tl' rl' (H.1, H.2.1, H.2.2.1, H.2.2.2.1, H.2.2.2.2.1, H.2.2.2.2.2.1, H.2.2.2.2.2.2.1, H.2.2.2.2.2.2.2.1, H.2.2.2.2.2.2.2.2.1, H.2.2.2.2.2.2.2.2.2.1, nx', kp') q w fr tr g re fi ro im' r pk cz lh lp se md ff')) := hD
  have hP := zP_perm (List.perm_middle (a := (ao, zoc tt vo)) (l₁ := wM tt c now before chg th row comes layer rounds value place places made lq left gone) (l₂ := wL tt a b d wd' fa' od' hd' qc' qs' bc' bs' tl' rl' (H.1, H.2.1, H.2.2.1, H.2.2.2.1, H.2.2.2.2.1, H.2.2.2.2.2.1, H.2.2.2.2.2.2.1, H.2.2.2.2.2.2.2.1, H.2.2.2.2.2.2.2.2.1, H.2.2.2.2.2.2.2.2.2.1, nx', kp') q w fr tr g re fi ro im' r pk cz lh lp se md ff')).symm hP
  have hD := zD_perm (List.perm_middle (a := (ao, zoc tt vo)) (l₁ := wM tt c now before chg th row comes layer rounds value place places made lq left gone) (l₂ := wL tt a b d wd' fa' od' hd' qc' qs' bc' bs' tl' rl' (H.1, H.2.1, H.2.2.1, H.2.2.2.1, H.2.2.2.2.1, H.2.2.2.2.2.1, H.2.2.2.2.2.2.1, H.2.2.2.2.2.2.2.1, H.2.2.2.2.2.2.2.2.1, H.2.2.2.2.2.2.2.2.2.1, nx', kp') q w fr tr g re fi ro im' r pk cz lh lp se md ff')).symm hD
  refine lv_aload_n hx hb dL_law_1042 rfl (lv_at hl 2 rfl) ?_
  refine z_callVi (wc := wM tt c now before chg th row comes layer rounds value place places made lq left gone) (wr := (ao, zoc tt vo) :: wL tt a b d wd' fa' od' hd' qc' qs' bc' bs' tl' rl' (H.1, H.2.1, H.2.2.1, H.2.2.2.1, H.2.2.2.2.1, H.2.2.2.2.2.1, H.2.2.2.2.2.2.1, H.2.2.2.2.2.2.2.1, H.2.2.2.2.2.2.2.2.1, H.2.2.2.2.2.2.2.2.2.1, nx', kp') q w fr tr g re fi ro im' r pk cz lh lp se md ff') (As := []) (rest := [.int a9]) (ci := 11) ⟨hx, hb, hml, hown, hts⟩ hK hN hP hD hS hA9 (nX12_undo l G tt H0.size K c now before chg th row comes layer rounds value place places made lq left gone  _ e2) (cwV 0 hts gL_law_X12_undo rfl rfl rfl (by decide +kernel) ⟨Nat.le_of_ble_eq_true rfl, Nat.le_of_ble_eq_true rfl⟩) rfl rfl rfl hl.1 rfl (Nat.le_of_ble_eq_true rfl) dL_law_1043 ⟨hc0, hs0⟩ (fun rr u H0 locs hw hP hD hS => ?_)
  obtain ⟨hw1, hw2⟩ := hw
  replace hw1 := hw1.symm; subst hw1
  replace hw2 := hw2.symm; subst hw2
  have hP : va_P G vwCl (((ao, zoc tt vo) :: wL tt a b d wd' fa' od' hd' qc' qs' bc' bs' tl' rl' (H.1, H.2.1, H.2.2.1, H.2.2.2.1, H.2.2.2.2.1, H.2.2.2.2.2.1, H.2.2.2.2.2.2.1, H.2.2.2.2.2.2.2.1, H.2.2.2.2.2.2.2.2.1, H.2.2.2.2.2.2.2.2.2.1, nx', kp') q w fr tr g re fi ro im' r pk cz lh lp se md ff') ++ wM tt c now' before chg' 0 row' comes' layer' rounds' value' place places made lq left gone) H0 := hP
  have hD : va_D (fun q : Nat => s.heap.size ≤ q) (((ao, zoc tt vo) :: wL tt a b d wd' fa' od' hd' qc' qs' bc' bs' tl' rl' (H.1, H.2.1, H.2.2.1, H.2.2.2.1, H.2.2.2.2.1, H.2.2.2.2.2.1, H.2.2.2.2.2.2.1, H.2.2.2.2.2.2.2.1, H.2.2.2.2.2.2.2.2.1, H.2.2.2.2.2.2.2.2.2.1, nx', kp') q w fr tr g re fi ro im' r pk cz lh lp se md ff') ++ wM tt c now' before chg' 0 row' comes' layer' rounds' value' place places made lq left gone) := hD
  refine lv_icmp_eq (tgt := 2784) hx hb dL_law_1046 (by decide) (fun _ => ?_) (fun h9 => absurd rfl h9)
  refine z_widen (k := ce + 4) (n := sl + 24) (by omega) (by omega) ?_
  refine z_widen (k := ce + 4) (n := sl + 24) (by omega) (by omega) ?_
  exact kk H0 locs ls ⟨wd', fa', od', hd', qc', qs', bc', bs', tl', rl', (H.1, H.2.1, H.2.2.1, H.2.2.2.1, H.2.2.2.2.1, H.2.2.2.2.2.1, H.2.2.2.2.2.2.1, H.2.2.2.2.2.2.2.1, H.2.2.2.2.2.2.2.2.1, H.2.2.2.2.2.2.2.2.2.1, nx', kp'), q, w, fr, tr, g, re, fi, ro, im', r, pk, cz, lh, lp, se, md, ff', now', before, chg', 0, row', comes', layer', rounds', value', place, places, made, lq, left, gone, vo, hI', hP, hD⟩ hS (lv_sub hl [0, 1, 2, 3, 4] rfl)

set_option maxHeartbeats 4000000 in
set_option maxRecDepth 100000 in
theorem zarm_tableCount (K : Nat) (hK9 : 1000000 < K) {p : Program} {l : Launch} {e0 : Env} {s : State} {m : MethodId} {below : List Frame} {meth : Method} {cd : Code} {sb L : Nat} {xs : Nat → Int32} {G : va_G} {tt : Nat → ClassId} {sa : Nat → Nat} (C : zCtx p l s m meth cd sb L xs G tt sa) (a : Nat → Nat) (b : Nat → Nat → Nat) (d : Nat → Nat → Nat → Nat) (c : Nat → Nat) (ao : Nat) {i : Nat} {iI : Int32} (hi : i + 7 ≤ L) (hiI : iI = nI i) {ce sl : Nat} (hce : ce ≤ 600000) (hsl : sl ≤ 7290000) {H0 : Heap} {locs : List Loc} (hw : zWorld G tt a b d c ao (fun q : Nat => s.heap.size ≤ q) H0) (hS : va_S (fun q : Nat => s.heap.size ≤ q) s.heap H0 locs) {ls : Array Slot} (hl : lv_has ls 9 [(0, .ref sb), (1, .ref (a 0)), (2, .ref (c 0)), (3, .ref ao), (4, .int iI)])
    (kk : ∀ (H1 : Heap) (locs1 : List Loc) (ls1 : Array Slot), zWorld G tt a b d c ao (fun q : Nat => s.heap.size ≤ q) H1 → va_S (fun q : Nat => s.heap.size ≤ q) s.heap H1 locs1 → lv_has ls1 9 [(0, .ref sb), (1, .ref (a 0)), (2, .ref (c 0)), (3, .ref ao), (4, .int iI)] → W p l e0 room_1 s m #[Value.ref sb] below meth cd H1 locs1 (ce + 4) (sl + 24) (lw_Z below #[Value.ref sb] s) (F0 m 2784 ls1 [])) :
    W p l e0 room_1 s m #[Value.ref sb] below meth cd H0 locs ce sl (lw_Z below #[Value.ref sb] s) (F0 m 1051 ls []) := by
  obtain ⟨wd, fa, od, hd, qc, qs, bc, bs, tl, rl, H, q, w, fr, tr, g, re, fi, ro, im, r, pk, cz, lh, lp, se, md, ff, now, before, chg, th, row, comes, layer, rounds, value, place, places, made, lq, left, gone, vo, hI, hP, hD⟩ := hw
  obtain ⟨hlt, hL, C0, hK, hN, hX, hNc⟩ := C
  obtain ⟨hx, hb, hr, hml, hown, hts0, hX9, hbl, hlocks, hgv⟩ := C0
  have hts : ∀ w ∈ wsL_law, w.before #[Value.ref sb] s = true := fun w h => hts0 w (zL_law w h)
  have hown : s.vm.findClass RL = some m.cls := hown
  have hA9 : ∀ q : Nat, s.heap.size ≤ q → (fun q : Nat => s.heap.size ≤ q) q := fun _ h => h
  have hbA : ¬ (fun q : Nat => s.heap.size ≤ q) sb := Nat.not_le.mpr hbl
  have hc0 : ce ≤ room_1.cells := by show ce ≤ 601024; omega
  have hs0 : sl ≤ room_1.slots := by show sl ≤ 7293034; omega
  have hc1 : ce + 0 ≤ room_1.cells := by show ce + 0 ≤ 601024; omega
  have hs1 : sl + 0 ≤ room_1.slots := by show sl + 0 ≤ 7293034; omega
  refine lv_aload_n hx hb dL_law_1051 rfl (lv_at hl 1 rfl) ?_
  obtain ⟨e1, e2⟩ := zI_tableCount hI th
  have hP := zP_perm (List.perm_middle (a := (ao, zoc tt vo)) (l₁ := wL tt a b d wd fa od hd qc qs bc bs tl rl H q w fr tr g re fi ro im r pk cz lh lp se md ff) (l₂ := wM tt c now before chg th row comes layer rounds value place places made lq left gone)).symm hP
  have hD := zD_perm (List.perm_middle (a := (ao, zoc tt vo)) (l₁ := wL tt a b d wd fa od hd qc qs bc bs tl rl H q w fr tr g re fi ro im r pk cz lh lp se md ff) (l₂ := wM tt c now before chg th row comes layer rounds value place places made lq left gone)).symm hD
  refine z_callVi (wc := wL tt a b d wd fa od hd qc qs bc bs tl rl H q w fr tr g re fi ro im r pk cz lh lp se md ff) (wr := (ao, zoc tt vo) :: wM tt c now before chg th row comes layer rounds value place places made lq left gone) (As := []) (rest := []) (ci := 10) ⟨hx, hb, hml, hown, hts⟩ hK hN hP hD hS hA9 (nX11_tableCount l G tt H0.size a b d wd fa od hd qc qs bc bs tl rl H q w fr tr g re fi ro im r pk cz lh lp se md ff _ e1) (cwV 0 hts gL_law_X11_tableCount rfl rfl rfl (by decide +kernel) ⟨Nat.le_of_ble_eq_true rfl, Nat.le_of_ble_eq_true rfl⟩) rfl rfl rfl hl.1 rfl (Nat.le_of_ble_eq_true rfl) dL_law_1052 ⟨hc0, hs0⟩ (fun rr u H0 locs hw hP hD hS => ?_)
  replace hw := hw.symm; subst hw
  have hP : va_P G vwCl ((ao, zoc tt vo) :: (wM tt c now before chg th row comes layer rounds value place places made lq left gone ++ wL tt a b d wd fa od hd qc qs bc bs tl rl H q w fr tr g re fi ro im r pk cz lh lp se md ff)) H0 := hP
  have hD : va_D (fun q : Nat => s.heap.size ≤ q) ((ao, zoc tt vo) :: (wM tt c now before chg th row comes layer rounds value place places made lq left gone ++ wL tt a b d wd fa od hd qc qs bc bs tl rl H q w fr tr g re fi ro im r pk cz lh lp se md ff)) := hD
  have hP := zP_perm (List.perm_middle (a := (ao, zoc tt vo)) (l₁ := wM tt c now before chg th row comes layer rounds value place places made lq left gone) (l₂ := wL tt a b d wd fa od hd qc qs bc bs tl rl H q w fr tr g re fi ro im r pk cz lh lp se md ff)).symm hP
  have hD := zD_perm (List.perm_middle (a := (ao, zoc tt vo)) (l₁ := wM tt c now before chg th row comes layer rounds value place places made lq left gone) (l₂ := wL tt a b d wd fa od hd qc qs bc bs tl rl H q w fr tr g re fi ro im r pk cz lh lp se md ff)).symm hD
  refine lv_aload_n hx hb dL_law_1055 rfl (lv_at hl 2 rfl) ?_
  refine z_callVi (wc := wM tt c now before chg th row comes layer rounds value place places made lq left gone) (wr := (ao, zoc tt vo) :: wL tt a b d wd fa od hd qc qs bc bs tl rl H q w fr tr g re fi ro im r pk cz lh lp se md ff) (As := []) (rest := [.int tl]) (ci := 11) ⟨hx, hb, hml, hown, hts⟩ hK hN hP hD hS hA9 (nX12_tableCount l G tt H0.size c now before chg th row comes layer rounds value place places made lq left gone  _ e2) (cwV 0 hts gL_law_X12_tableCount rfl rfl rfl (by decide +kernel) ⟨Nat.le_of_ble_eq_true rfl, Nat.le_of_ble_eq_true rfl⟩) rfl rfl rfl hl.1 rfl (Nat.le_of_ble_eq_true rfl) dL_law_1056 ⟨hc0, hs0⟩ (fun rr u H0 locs hw hP hD hS => ?_)
  obtain ⟨hw1, hw2⟩ := hw
  replace hw1 := hw1.symm; subst hw1
  replace hw2 := hw2.symm; subst hw2
  have hP : va_P G vwCl (((ao, zoc tt vo) :: wL tt a b d wd fa od hd qc qs bc bs tl rl H q w fr tr g re fi ro im r pk cz lh lp se md ff) ++ wM tt c now before chg 0 row comes layer rounds value place places made lq left gone) H0 := hP
  have hD : va_D (fun q : Nat => s.heap.size ≤ q) (((ao, zoc tt vo) :: wL tt a b d wd fa od hd qc qs bc bs tl rl H q w fr tr g re fi ro im r pk cz lh lp se md ff) ++ wM tt c now before chg 0 row comes layer rounds value place places made lq left gone) := hD
  refine lv_icmp_eq (tgt := 2784) hx hb dL_law_1059 (by decide) (fun _ => ?_) (fun h9 => absurd rfl h9)
  refine z_widen (k := ce + 4) (n := sl + 24) (by omega) (by omega) ?_
  refine z_widen (k := ce + 4) (n := sl + 24) (by omega) (by omega) ?_
  exact kk H0 locs ls ⟨wd, fa, od, hd, qc, qs, bc, bs, tl, rl, H, q, w, fr, tr, g, re, fi, ro, im, r, pk, cz, lh, lp, se, md, ff, now, before, chg, 0, row, comes, layer, rounds, value, place, places, made, lq, left, gone, vo, hI, hP, hD⟩ hS (lv_sub hl [0, 1, 2, 3, 4] rfl)

set_option maxHeartbeats 4000000 in
set_option maxRecDepth 100000 in
theorem zarm_columns (K : Nat) (hK9 : 1000000 < K) {p : Program} {l : Launch} {e0 : Env} {s : State} {m : MethodId} {below : List Frame} {meth : Method} {cd : Code} {sb L : Nat} {xs : Nat → Int32} {G : va_G} {tt : Nat → ClassId} {sa : Nat → Nat} (C : zCtx p l s m meth cd sb L xs G tt sa) (a : Nat → Nat) (b : Nat → Nat → Nat) (d : Nat → Nat → Nat → Nat) (c : Nat → Nat) (ao : Nat) {i : Nat} {iI : Int32} (hi : i + 7 ≤ L) (hiI : iI = nI i) {ce sl : Nat} (hce : ce ≤ 600000) (hsl : sl ≤ 7290000) {H0 : Heap} {locs : List Loc} (hw : zWorld G tt a b d c ao (fun q : Nat => s.heap.size ≤ q) H0) (hS : va_S (fun q : Nat => s.heap.size ≤ q) s.heap H0 locs) {ls : Array Slot} (hl : lv_has ls 9 [(0, .ref sb), (1, .ref (a 0)), (2, .ref (c 0)), (3, .ref ao), (4, .int iI)])
    (kk : ∀ (H1 : Heap) (locs1 : List Loc) (ls1 : Array Slot), zWorld G tt a b d c ao (fun q : Nat => s.heap.size ≤ q) H1 → va_S (fun q : Nat => s.heap.size ≤ q) s.heap H1 locs1 → lv_has ls1 9 [(0, .ref sb), (1, .ref (a 0)), (2, .ref (c 0)), (3, .ref ao), (4, .int iI)] → W p l e0 room_1 s m #[Value.ref sb] below meth cd H1 locs1 (ce + 4) (sl + 24) (lw_Z below #[Value.ref sb] s) (F0 m 2784 ls1 [])) :
    W p l e0 room_1 s m #[Value.ref sb] below meth cd H0 locs ce sl (lw_Z below #[Value.ref sb] s) (F0 m 1064 ls []) := by
  obtain ⟨wd, fa, od, hd, qc, qs, bc, bs, tl, rl, H, q, w, fr, tr, g, re, fi, ro, im, r, pk, cz, lh, lp, se, md, ff, now, before, chg, th, row, comes, layer, rounds, value, place, places, made, lq, left, gone, vo, hI, hP, hD⟩ := hw
  obtain ⟨hlt, hL, C0, hK, hN, hX, hNc⟩ := C
  obtain ⟨hx, hb, hr, hml, hown, hts0, hX9, hbl, hlocks, hgv⟩ := C0
  have hts : ∀ w ∈ wsL_law, w.before #[Value.ref sb] s = true := fun w h => hts0 w (zL_law w h)
  have hown : s.vm.findClass RL = some m.cls := hown
  have hA9 : ∀ q : Nat, s.heap.size ≤ q → (fun q : Nat => s.heap.size ≤ q) q := fun _ h => h
  have hbA : ¬ (fun q : Nat => s.heap.size ≤ q) sb := Nat.not_le.mpr hbl
  have hc0 : ce ≤ room_1.cells := by show ce ≤ 601024; omega
  have hs0 : sl ≤ room_1.slots := by show sl ≤ 7293034; omega
  have hc1 : ce + 1 ≤ room_1.cells := by show ce + 1 ≤ 601024; omega
  have hs1 : sl + 6 ≤ room_1.slots := by show sl + 6 ≤ 7293034; omega
  refine lv_aload_n hx hb dL_law_1064 rfl (lv_at hl 1 rfl) ?_
  refine lv_aload_n hx hb dL_law_1065 rfl (lv_at hl 0 rfl) ?_
  refine lv_iload hx hb dL_law_1066 (lv_at hl 4 rfl) ?_
  refine lv_iconst (v := (1 : Int32)) hx hb dL_law_1068 (by decide) ?_
  refine lv_iadd hx hb dL_law_1069 ?_
  refine va_sld hx hb hX9 hbl hbA hS (zin_L hi hL hiI 1 (by decide) (1 : Int32) rfl) dL_law_1070 ?_
  refine lv_topi (fun x1 ex1 => ?_)
  refine lv_aload_n hx hb dL_law_1071 rfl (lv_at hl 3 rfl) ?_
  obtain ⟨e, bb, e1, e2, hA⟩ := zI_columns K hK9 hI x1 th
  refine z_callW (wc := (ao, zoc tt vo) :: wL tt a b d wd fa od hd qc qs bc bs tl rl H q w fr tr g re fi ro im r pk cz lh lp se md ff) (wr := wM tt c now before chg th row comes layer rounds value place places made lq left gone) (As := [.ref (a 0), .int x1, .ref ao]) (rest := []) ⟨hx, hb, hml, hown, hts⟩ hK hN hX hNc hP hD hS hA9 (mL_columns l G tt sa hlt H0.size a b d wd fa od hd qc qs bc bs tl rl H q w fr tr g re fi ro im r pk cz lh lp se md ff x1 ao vo _ e1 bb hA) (vx_cwSW 3 hts gL_law_L_columns rfl rfl rfl (by decide +kernel) ⟨Nat.le_of_ble_eq_true rfl, Nat.le_of_ble_eq_true rfl⟩) rfl hl.1 rfl (Nat.le_of_ble_eq_true rfl) dL_law_1072 ⟨hc1, hs1⟩ (fun rr u H0 locs hw hP hD hS => ?_)
  obtain ⟨hw1, hw2⟩ := hw
  replace hw1 := hw1.symm; subst hw1
  replace hw2 := hw2.symm; subst hw2
  have hP : va_P G vwCl (wM tt c now before chg th row comes layer rounds value place places made lq left gone ++ ((ao, zoc tt (zout Int32.toInt64 vo e)) :: wL tt a b d wd fa od hd qc qs bc bs tl rl H q w fr tr g re fi ro im r pk cz lh lp se md ff)) H0 := hP
  have hD : va_D (fun q : Nat => s.heap.size ≤ q) (wM tt c now before chg th row comes layer rounds value place places made lq left gone ++ ((ao, zoc tt (zout Int32.toInt64 vo e)) :: wL tt a b d wd fa od hd qc qs bc bs tl rl H q w fr tr g re fi ro im r pk cz lh lp se md ff)) := hD
  refine lv_istore (lv' := [(5, .int bb.2), (0, .ref sb), (1, .ref (a 0)), (2, .ref (c 0)), (3, .ref ao), (4, .int iI)]) hx hb dL_law_1075 hl (by decide) rfl (fun ls hl => ?_)
  refine lv_aload_n hx hb dL_law_1077 rfl (lv_at hl 3 rfl) ?_
  refine lv_aload_n hx hb dL_law_1078 rfl (lv_at hl 1 rfl) ?_
  refine lv_iload hx hb dL_law_1079 (lv_at hl 5 rfl) ?_
  refine lv_iconst (v := (1 : Int32)) hx hb dL_law_1081 (by decide) ?_
  refine lv_iadd hx hb dL_law_1082 ?_
  refine va_sld hx hb hX9 hbl hbA hS (zin_L hi hL hiI 1 (by decide) (1 : Int32) rfl) dL_law_1083 ?_
  refine lv_topi (fun x2 ex2 => ?_)
  obtain rfl : x2 = x1 := ex2.trans ex1.symm
  refine z_callVi (wc := wM tt c now before chg th row comes layer rounds value place places made lq left gone) (wr := (ao, zoc tt (zout Int32.toInt64 vo e)) :: wL tt a b d wd fa od hd qc qs bc bs tl rl H q w fr tr g re fi ro im r pk cz lh lp se md ff) (As := [.int x2]) (rest := []) (ci := 11) ⟨hx, hb, hml, hown, hts⟩ hK hN hP hD hS hA9 (nX12_columns l G tt H0.size c now before chg th row comes layer rounds value place places made lq left gone x2 _ e2) (cwV 1 hts gL_law_X12_columns rfl rfl rfl (by decide +kernel) ⟨Nat.le_of_ble_eq_true rfl, Nat.le_of_ble_eq_true rfl⟩) rfl rfl rfl hl.1 rfl (Nat.le_of_ble_eq_true rfl) dL_law_1084 ⟨hc1, hs1⟩ (fun rr u H0 locs hw hP hD hS => ?_)
  obtain ⟨hw1, hw2⟩ := hw
  replace hw1 := hw1.symm; subst hw1
  replace hw2 := hw2.symm; subst hw2
  have hP : va_P G vwCl (((ao, zoc tt (zout Int32.toInt64 vo e)) :: wL tt a b d wd fa od hd qc qs bc bs tl rl H q w fr tr g re fi ro im r pk cz lh lp se md ff) ++ wM tt c now before chg bb.2 row comes layer rounds value place places made lq left gone) H0 := hP
  have hD : va_D (fun q : Nat => s.heap.size ≤ q) (((ao, zoc tt (zout Int32.toInt64 vo e)) :: wL tt a b d wd fa od hd qc qs bc bs tl rl H q w fr tr g re fi ro im r pk cz lh lp se md ff) ++ wM tt c now before chg bb.2 row comes layer rounds value place places made lq left gone) := hD
  refine lv_istore (lv' := [(6, .int bb.1), (5, .int bb.2), (0, .ref sb), (1, .ref (a 0)), (2, .ref (c 0)), (3, .ref ao), (4, .int iI)]) hx hb dL_law_1087 hl (by decide) rfl (fun ls hl => ?_)
  refine lv_aload_n hx hb dL_law_1089 rfl (lv_at hl 4 rfl) ?_
  have hP := zP_perm (List.perm_append_comm (l₁ := (ao, zoc tt (zout Int32.toInt64 vo e)) :: wL tt a b d wd fa od hd qc qs bc bs tl rl H q w fr tr g re fi ro im r pk cz lh lp se md ff) (l₂ := wM tt c now before chg bb.2 row comes layer rounds value place places made lq left gone)) hP
  have hD := zD_perm (List.perm_append_comm (l₁ := (ao, zoc tt (zout Int32.toInt64 vo e)) :: wL tt a b d wd fa od hd qc qs bc bs tl rl H q w fr tr g re fi ro im r pk cz lh lp se md ff) (l₂ := wM tt c now before chg bb.2 row comes layer rounds value place places made lq left gone)) hD
  refine z_callVi (wc := wM tt c now before chg bb.2 row comes layer rounds value place places made lq left gone) (wr := (ao, zoc tt (zout Int32.toInt64 vo e)) :: wL tt a b d wd fa od hd qc qs bc bs tl rl H q w fr tr g re fi ro im r pk cz lh lp se md ff) (As := []) (rest := []) (ci := 11) ⟨hx, hb, hml, hown, hts⟩ hK hN hP hD hS hA9 (nX12_thrown l G tt H0.size c now before chg bb.2 row comes layer rounds value place places made lq left gone bb.2 rfl) (cwV 0 hts gL_law_X12_thrown rfl rfl rfl (by decide +kernel) ⟨Nat.le_of_ble_eq_true rfl, Nat.le_of_ble_eq_true rfl⟩) rfl rfl rfl hl.1 rfl (Nat.le_of_ble_eq_true rfl) dL_law_1090 ⟨hc1, hs1⟩ (fun rr u H0 locs hw hP hD hS => ?_)
  replace hw := hw.symm; subst hw
  have hP : va_P G vwCl (((ao, zoc tt (zout Int32.toInt64 vo e)) :: wL tt a b d wd fa od hd qc qs bc bs tl rl H q w fr tr g re fi ro im r pk cz lh lp se md ff) ++ wM tt c now before chg bb.2 row comes layer rounds value place places made lq left gone) H0 := hP
  have hD : va_D (fun q : Nat => s.heap.size ≤ q) (((ao, zoc tt (zout Int32.toInt64 vo e)) :: wL tt a b d wd fa od hd qc qs bc bs tl rl H q w fr tr g re fi ro im r pk cz lh lp se md ff) ++ wM tt c now before chg bb.2 row comes layer rounds value place places made lq left gone) := hD
  refine lv_iload hx hb dL_law_1093 (lv_at hl 1 rfl) ?_
  refine lv_icmp_eq (tgt := 1100) hx hb dL_law_1095 (by decide) (fun _ => ?_) (fun h9 => absurd rfl h9)
  refine lv_iload hx hb dL_law_1100 (lv_at hl 1 rfl) ?_
  rcases hA with ⟨k9, hk9, ek, rfl⟩ | ⟨v9, ev, rfl⟩
  · refine lv_if_ne (tgt := 1117) hx hb dL_law_1102 (by decide) (fun _ => ?_) (fun h9 => absurd h9 (fun h => zcd_ne k9 h))
    refine lv_goto (tgt := 2784) hx hb dL_law_1117 (by decide) ?_
    refine z_widen (k := ce + 4) (n := sl + 24) (by omega) (by omega) ?_
    exact kk H0 locs ls ⟨wd, fa, od, hd, qc, qs, bc, bs, tl, rl, H, q, w, fr, tr, g, re, fi, ro, im, r, pk, cz, lh, lp, se, md, ff, now, before, chg, _, row, comes, layer, rounds, value, place, places, made, lq, left, gone, (zout Int32.toInt64 vo e), hI, hP, hD⟩ hS (lv_sub hl [2, 3, 4, 5, 6] rfl)
  · refine lv_if_ne (tgt := 1117) hx hb dL_law_1102 (by decide) (fun h9 => absurd rfl h9) (fun _ => ?_)
    refine lv_aload_n hx hb dL_law_1105 rfl (lv_at hl 5 rfl) ?_
    refine lv_iconst (v := (0 : Int32)) hx hb dL_law_1106 (by decide) ?_
    refine va_lald hx hb hK hP 0 1 rfl rfl (inB_vp (by decide)) dL_law_1107 ?_
    refine lv_iload hx hb dL_law_1108 (lv_at hl 0 rfl) ?_
    refine lv_i2l hx hb dL_law_1110 rfl ?_
    refine W.lcmp hx hb dL_law_1111 ?_
    refine lv_if_eq (tgt := 1117) hx hb dL_law_1112 (by decide) (fun _ => ?_) (fun h9 => absurd ((lg_cmp_eq _ _).mpr (by subst ev; exact (zout_at Int32.toInt64 vo v9))) h9)
    refine lv_goto (tgt := 2784) hx hb dL_law_1117 (by decide) ?_
    refine z_widen (k := ce + 4) (n := sl + 24) (by omega) (by omega) ?_
    exact kk H0 locs ls ⟨wd, fa, od, hd, qc, qs, bc, bs, tl, rl, H, q, w, fr, tr, g, re, fi, ro, im, r, pk, cz, lh, lp, se, md, ff, now, before, chg, _, row, comes, layer, rounds, value, place, places, made, lq, left, gone, (zout Int32.toInt64 vo e), hI, hP, hD⟩ hS (lv_sub hl [2, 3, 4, 5, 6] rfl)

set_option maxHeartbeats 4000000 in
set_option maxRecDepth 100000 in
theorem zarm_factCount (K : Nat) (hK9 : 1000000 < K) {p : Program} {l : Launch} {e0 : Env} {s : State} {m : MethodId} {below : List Frame} {meth : Method} {cd : Code} {sb L : Nat} {xs : Nat → Int32} {G : va_G} {tt : Nat → ClassId} {sa : Nat → Nat} (C : zCtx p l s m meth cd sb L xs G tt sa) (a : Nat → Nat) (b : Nat → Nat → Nat) (d : Nat → Nat → Nat → Nat) (c : Nat → Nat) (ao : Nat) {i : Nat} {iI : Int32} (hi : i + 7 ≤ L) (hiI : iI = nI i) {ce sl : Nat} (hce : ce ≤ 600000) (hsl : sl ≤ 7290000) {H0 : Heap} {locs : List Loc} (hw : zWorld G tt a b d c ao (fun q : Nat => s.heap.size ≤ q) H0) (hS : va_S (fun q : Nat => s.heap.size ≤ q) s.heap H0 locs) {ls : Array Slot} (hl : lv_has ls 9 [(0, .ref sb), (1, .ref (a 0)), (2, .ref (c 0)), (3, .ref ao), (4, .int iI)])
    (kk : ∀ (H1 : Heap) (locs1 : List Loc) (ls1 : Array Slot), zWorld G tt a b d c ao (fun q : Nat => s.heap.size ≤ q) H1 → va_S (fun q : Nat => s.heap.size ≤ q) s.heap H1 locs1 → lv_has ls1 9 [(0, .ref sb), (1, .ref (a 0)), (2, .ref (c 0)), (3, .ref ao), (4, .int iI)] → W p l e0 room_1 s m #[Value.ref sb] below meth cd H1 locs1 (ce + 4) (sl + 24) (lw_Z below #[Value.ref sb] s) (F0 m 2784 ls1 [])) :
    W p l e0 room_1 s m #[Value.ref sb] below meth cd H0 locs ce sl (lw_Z below #[Value.ref sb] s) (F0 m 1120 ls []) := by
  obtain ⟨wd, fa, od, hd, qc, qs, bc, bs, tl, rl, H, q, w, fr, tr, g, re, fi, ro, im, r, pk, cz, lh, lp, se, md, ff, now, before, chg, th, row, comes, layer, rounds, value, place, places, made, lq, left, gone, vo, hI, hP, hD⟩ := hw
  obtain ⟨hlt, hL, C0, hK, hN, hX, hNc⟩ := C
  obtain ⟨hx, hb, hr, hml, hown, hts0, hX9, hbl, hlocks, hgv⟩ := C0
  have hts : ∀ w ∈ wsL_law, w.before #[Value.ref sb] s = true := fun w h => hts0 w (zL_law w h)
  have hown : s.vm.findClass RL = some m.cls := hown
  have hA9 : ∀ q : Nat, s.heap.size ≤ q → (fun q : Nat => s.heap.size ≤ q) q := fun _ h => h
  have hbA : ¬ (fun q : Nat => s.heap.size ≤ q) sb := Nat.not_le.mpr hbl
  have hc0 : ce ≤ room_1.cells := by show ce ≤ 601024; omega
  have hs0 : sl ≤ room_1.slots := by show sl ≤ 7293034; omega
  have hc1 : ce + 1 ≤ room_1.cells := by show ce + 1 ≤ 601024; omega
  have hs1 : sl + 6 ≤ room_1.slots := by show sl + 6 ≤ 7293034; omega
  refine lv_aload_n hx hb dL_law_1120 rfl (lv_at hl 1 rfl) ?_
  refine lv_aload_n hx hb dL_law_1121 rfl (lv_at hl 0 rfl) ?_
  refine lv_iload hx hb dL_law_1122 (lv_at hl 4 rfl) ?_
  refine lv_iconst (v := (1 : Int32)) hx hb dL_law_1124 (by decide) ?_
  refine lv_iadd hx hb dL_law_1125 ?_
  refine va_sld hx hb hX9 hbl hbA hS (zin_L hi hL hiI 1 (by decide) (1 : Int32) rfl) dL_law_1126 ?_
  refine lv_topi (fun x1 ex1 => ?_)
  refine lv_aload_n hx hb dL_law_1127 rfl (lv_at hl 3 rfl) ?_
  obtain ⟨e, bb, e1, e2, hA⟩ := zI_factCount K hK9 hI x1 th
  refine z_callW (wc := (ao, zoc tt vo) :: wL tt a b d wd fa od hd qc qs bc bs tl rl H q w fr tr g re fi ro im r pk cz lh lp se md ff) (wr := wM tt c now before chg th row comes layer rounds value place places made lq left gone) (As := [.ref (a 0), .int x1, .ref ao]) (rest := []) ⟨hx, hb, hml, hown, hts⟩ hK hN hX hNc hP hD hS hA9 (mL_factCount l G tt sa hlt H0.size K a b d wd fa od hd qc qs bc bs tl rl H q w fr tr g re fi ro im r pk cz lh lp se md ff x1 ao vo _ e1 bb hA) (vx_cwSW 3 hts gL_law_L_factCount rfl rfl rfl (by decide +kernel) ⟨Nat.le_of_ble_eq_true rfl, Nat.le_of_ble_eq_true rfl⟩) rfl hl.1 rfl (Nat.le_of_ble_eq_true rfl) dL_law_1128 ⟨hc1, hs1⟩ (fun rr u H0 locs hw hP hD hS => ?_)
  obtain ⟨hw1, hw2⟩ := hw
  replace hw1 := hw1.symm; subst hw1
  replace hw2 := hw2.symm; subst hw2
  have hP : va_P G vwCl (wM tt c now before chg th row comes layer rounds value place places made lq left gone ++ ((ao, zoc tt (zout Int32.toInt64 vo e)) :: wL tt a b d wd fa od hd qc qs bc bs tl rl H q w fr tr g re fi ro im r pk cz lh lp se md ff)) H0 := hP
  have hD : va_D (fun q : Nat => s.heap.size ≤ q) (wM tt c now before chg th row comes layer rounds value place places made lq left gone ++ ((ao, zoc tt (zout Int32.toInt64 vo e)) :: wL tt a b d wd fa od hd qc qs bc bs tl rl H q w fr tr g re fi ro im r pk cz lh lp se md ff)) := hD
  refine lv_istore (lv' := [(5, .int bb.2), (0, .ref sb), (1, .ref (a 0)), (2, .ref (c 0)), (3, .ref ao), (4, .int iI)]) hx hb dL_law_1131 hl (by decide) rfl (fun ls hl => ?_)
  refine lv_aload_n hx hb dL_law_1133 rfl (lv_at hl 3 rfl) ?_
  refine lv_aload_n hx hb dL_law_1134 rfl (lv_at hl 1 rfl) ?_
  refine lv_iload hx hb dL_law_1135 (lv_at hl 5 rfl) ?_
  refine lv_iconst (v := (1 : Int32)) hx hb dL_law_1137 (by decide) ?_
  refine lv_iadd hx hb dL_law_1138 ?_
  refine va_sld hx hb hX9 hbl hbA hS (zin_L hi hL hiI 1 (by decide) (1 : Int32) rfl) dL_law_1139 ?_
  refine lv_topi (fun x2 ex2 => ?_)
  obtain rfl : x2 = x1 := ex2.trans ex1.symm
  refine z_callVi (wc := wM tt c now before chg th row comes layer rounds value place places made lq left gone) (wr := (ao, zoc tt (zout Int32.toInt64 vo e)) :: wL tt a b d wd fa od hd qc qs bc bs tl rl H q w fr tr g re fi ro im r pk cz lh lp se md ff) (As := [.int x2]) (rest := []) (ci := 11) ⟨hx, hb, hml, hown, hts⟩ hK hN hP hD hS hA9 (nX12_factCount l G tt H0.size K c now before chg th row comes layer rounds value place places made lq left gone x2 _ e2) (cwV 1 hts gL_law_X12_factCount rfl rfl rfl (by decide +kernel) ⟨Nat.le_of_ble_eq_true rfl, Nat.le_of_ble_eq_true rfl⟩) rfl rfl rfl hl.1 rfl (Nat.le_of_ble_eq_true rfl) dL_law_1140 ⟨hc1, hs1⟩ (fun rr u H0 locs hw hP hD hS => ?_)
  obtain ⟨hw1, hw2⟩ := hw
  replace hw1 := hw1.symm; subst hw1
  replace hw2 := hw2.symm; subst hw2
  have hP : va_P G vwCl (((ao, zoc tt (zout Int32.toInt64 vo e)) :: wL tt a b d wd fa od hd qc qs bc bs tl rl H q w fr tr g re fi ro im r pk cz lh lp se md ff) ++ wM tt c now before chg bb.2 row comes layer rounds value place places made lq left gone) H0 := hP
  have hD : va_D (fun q : Nat => s.heap.size ≤ q) (((ao, zoc tt (zout Int32.toInt64 vo e)) :: wL tt a b d wd fa od hd qc qs bc bs tl rl H q w fr tr g re fi ro im r pk cz lh lp se md ff) ++ wM tt c now before chg bb.2 row comes layer rounds value place places made lq left gone) := hD
  refine lv_istore (lv' := [(6, .int bb.1), (5, .int bb.2), (0, .ref sb), (1, .ref (a 0)), (2, .ref (c 0)), (3, .ref ao), (4, .int iI)]) hx hb dL_law_1143 hl (by decide) rfl (fun ls hl => ?_)
  refine lv_aload_n hx hb dL_law_1145 rfl (lv_at hl 4 rfl) ?_
  have hP := zP_perm (List.perm_append_comm (l₁ := (ao, zoc tt (zout Int32.toInt64 vo e)) :: wL tt a b d wd fa od hd qc qs bc bs tl rl H q w fr tr g re fi ro im r pk cz lh lp se md ff) (l₂ := wM tt c now before chg bb.2 row comes layer rounds value place places made lq left gone)) hP
  have hD := zD_perm (List.perm_append_comm (l₁ := (ao, zoc tt (zout Int32.toInt64 vo e)) :: wL tt a b d wd fa od hd qc qs bc bs tl rl H q w fr tr g re fi ro im r pk cz lh lp se md ff) (l₂ := wM tt c now before chg bb.2 row comes layer rounds value place places made lq left gone)) hD
  refine z_callVi (wc := wM tt c now before chg bb.2 row comes layer rounds value place places made lq left gone) (wr := (ao, zoc tt (zout Int32.toInt64 vo e)) :: wL tt a b d wd fa od hd qc qs bc bs tl rl H q w fr tr g re fi ro im r pk cz lh lp se md ff) (As := []) (rest := []) (ci := 11) ⟨hx, hb, hml, hown, hts⟩ hK hN hP hD hS hA9 (nX12_thrown l G tt H0.size c now before chg bb.2 row comes layer rounds value place places made lq left gone bb.2 rfl) (cwV 0 hts gL_law_X12_thrown rfl rfl rfl (by decide +kernel) ⟨Nat.le_of_ble_eq_true rfl, Nat.le_of_ble_eq_true rfl⟩) rfl rfl rfl hl.1 rfl (Nat.le_of_ble_eq_true rfl) dL_law_1146 ⟨hc1, hs1⟩ (fun rr u H0 locs hw hP hD hS => ?_)
  replace hw := hw.symm; subst hw
  have hP : va_P G vwCl (((ao, zoc tt (zout Int32.toInt64 vo e)) :: wL tt a b d wd fa od hd qc qs bc bs tl rl H q w fr tr g re fi ro im r pk cz lh lp se md ff) ++ wM tt c now before chg bb.2 row comes layer rounds value place places made lq left gone) H0 := hP
  have hD : va_D (fun q : Nat => s.heap.size ≤ q) (((ao, zoc tt (zout Int32.toInt64 vo e)) :: wL tt a b d wd fa od hd qc qs bc bs tl rl H q w fr tr g re fi ro im r pk cz lh lp se md ff) ++ wM tt c now before chg bb.2 row comes layer rounds value place places made lq left gone) := hD
  refine lv_iload hx hb dL_law_1149 (lv_at hl 1 rfl) ?_
  refine lv_icmp_eq (tgt := 1156) hx hb dL_law_1151 (by decide) (fun _ => ?_) (fun h9 => absurd rfl h9)
  refine lv_iload hx hb dL_law_1156 (lv_at hl 1 rfl) ?_
  rcases hA with ⟨k9, hk9, ek, rfl⟩ | ⟨v9, ev, rfl⟩
  · refine lv_if_ne (tgt := 1173) hx hb dL_law_1158 (by decide) (fun _ => ?_) (fun h9 => absurd h9 (fun h => zcd_ne k9 h))
    refine lv_goto (tgt := 2784) hx hb dL_law_1173 (by decide) ?_
    refine z_widen (k := ce + 4) (n := sl + 24) (by omega) (by omega) ?_
    exact kk H0 locs ls ⟨wd, fa, od, hd, qc, qs, bc, bs, tl, rl, H, q, w, fr, tr, g, re, fi, ro, im, r, pk, cz, lh, lp, se, md, ff, now, before, chg, _, row, comes, layer, rounds, value, place, places, made, lq, left, gone, (zout Int32.toInt64 vo e), hI, hP, hD⟩ hS (lv_sub hl [2, 3, 4, 5, 6] rfl)
  · refine lv_if_ne (tgt := 1173) hx hb dL_law_1158 (by decide) (fun h9 => absurd rfl h9) (fun _ => ?_)
    refine lv_aload_n hx hb dL_law_1161 rfl (lv_at hl 5 rfl) ?_
    refine lv_iconst (v := (0 : Int32)) hx hb dL_law_1162 (by decide) ?_
    refine va_lald hx hb hK hP 0 1 rfl rfl (inB_vp (by decide)) dL_law_1163 ?_
    refine lv_iload hx hb dL_law_1164 (lv_at hl 0 rfl) ?_
    refine lv_i2l hx hb dL_law_1166 rfl ?_
    refine W.lcmp hx hb dL_law_1167 ?_
    refine lv_if_eq (tgt := 1173) hx hb dL_law_1168 (by decide) (fun _ => ?_) (fun h9 => absurd ((lg_cmp_eq _ _).mpr (by subst ev; exact (zout_at Int32.toInt64 vo v9))) h9)
    refine lv_goto (tgt := 2784) hx hb dL_law_1173 (by decide) ?_
    refine z_widen (k := ce + 4) (n := sl + 24) (by omega) (by omega) ?_
    exact kk H0 locs ls ⟨wd, fa, od, hd, qc, qs, bc, bs, tl, rl, H, q, w, fr, tr, g, re, fi, ro, im, r, pk, cz, lh, lp, se, md, ff, now, before, chg, _, row, comes, layer, rounds, value, place, places, made, lq, left, gone, (zout Int32.toInt64 vo e), hI, hP, hD⟩ hS (lv_sub hl [2, 3, 4, 5, 6] rfl)

set_option maxHeartbeats 4000000 in
set_option maxRecDepth 100000 in
theorem zarm_rowCount (K : Nat) (hK9 : 1000000 < K) {p : Program} {l : Launch} {e0 : Env} {s : State} {m : MethodId} {below : List Frame} {meth : Method} {cd : Code} {sb L : Nat} {xs : Nat → Int32} {G : va_G} {tt : Nat → ClassId} {sa : Nat → Nat} (C : zCtx p l s m meth cd sb L xs G tt sa) (a : Nat → Nat) (b : Nat → Nat → Nat) (d : Nat → Nat → Nat → Nat) (c : Nat → Nat) (ao : Nat) {i : Nat} {iI : Int32} (hi : i + 7 ≤ L) (hiI : iI = nI i) {ce sl : Nat} (hce : ce ≤ 600000) (hsl : sl ≤ 7290000) {H0 : Heap} {locs : List Loc} (hw : zWorld G tt a b d c ao (fun q : Nat => s.heap.size ≤ q) H0) (hS : va_S (fun q : Nat => s.heap.size ≤ q) s.heap H0 locs) {ls : Array Slot} (hl : lv_has ls 9 [(0, .ref sb), (1, .ref (a 0)), (2, .ref (c 0)), (3, .ref ao), (4, .int iI)])
    (kk : ∀ (H1 : Heap) (locs1 : List Loc) (ls1 : Array Slot), zWorld G tt a b d c ao (fun q : Nat => s.heap.size ≤ q) H1 → va_S (fun q : Nat => s.heap.size ≤ q) s.heap H1 locs1 → lv_has ls1 9 [(0, .ref sb), (1, .ref (a 0)), (2, .ref (c 0)), (3, .ref ao), (4, .int iI)] → W p l e0 room_1 s m #[Value.ref sb] below meth cd H1 locs1 (ce + 4) (sl + 24) (lw_Z below #[Value.ref sb] s) (F0 m 2784 ls1 [])) :
    W p l e0 room_1 s m #[Value.ref sb] below meth cd H0 locs ce sl (lw_Z below #[Value.ref sb] s) (F0 m 1176 ls []) := by
  obtain ⟨wd, fa, od, hd, qc, qs, bc, bs, tl, rl, H, q, w, fr, tr, g, re, fi, ro, im, r, pk, cz, lh, lp, se, md, ff, now, before, chg, th, row, comes, layer, rounds, value, place, places, made, lq, left, gone, vo, hI, hP, hD⟩ := hw
  obtain ⟨hlt, hL, C0, hK, hN, hX, hNc⟩ := C
  obtain ⟨hx, hb, hr, hml, hown, hts0, hX9, hbl, hlocks, hgv⟩ := C0
  have hts : ∀ w ∈ wsL_law, w.before #[Value.ref sb] s = true := fun w h => hts0 w (zL_law w h)
  have hown : s.vm.findClass RL = some m.cls := hown
  have hA9 : ∀ q : Nat, s.heap.size ≤ q → (fun q : Nat => s.heap.size ≤ q) q := fun _ h => h
  have hbA : ¬ (fun q : Nat => s.heap.size ≤ q) sb := Nat.not_le.mpr hbl
  have hc0 : ce ≤ room_1.cells := by show ce ≤ 601024; omega
  have hs0 : sl ≤ room_1.slots := by show sl ≤ 7293034; omega
  have hc1 : ce + 1 ≤ room_1.cells := by show ce + 1 ≤ 601024; omega
  have hs1 : sl + 6 ≤ room_1.slots := by show sl + 6 ≤ 7293034; omega
  refine lv_aload_n hx hb dL_law_1176 rfl (lv_at hl 1 rfl) ?_
  refine lv_aload_n hx hb dL_law_1177 rfl (lv_at hl 0 rfl) ?_
  refine lv_iload hx hb dL_law_1178 (lv_at hl 4 rfl) ?_
  refine lv_iconst (v := (1 : Int32)) hx hb dL_law_1180 (by decide) ?_
  refine lv_iadd hx hb dL_law_1181 ?_
  refine va_sld hx hb hX9 hbl hbA hS (zin_L hi hL hiI 1 (by decide) (1 : Int32) rfl) dL_law_1182 ?_
  refine lv_topi (fun x1 ex1 => ?_)
  refine lv_aload_n hx hb dL_law_1183 rfl (lv_at hl 3 rfl) ?_
  obtain ⟨e, bb, q', w', fr', g', re', fi', ro', im', e1, e2, hA, hI'⟩ := zI_rowCount K hK9 hI q fr x1 th
  unfold zapg at e1
  refine z_callW (wc := (ao, zoc tt vo) :: wL tt a b d wd fa od hd qc qs bc bs tl rl H q w fr tr g re fi ro im r pk cz lh lp se md ff) (wr := wM tt c now before chg th row comes layer rounds value place places made lq left gone) (As := [.ref (a 0), .int x1, .ref ao]) (rest := []) ⟨hx, hb, hml, hown, hts⟩ hK hN hX hNc hP hD hS hA9 (mL_rowCount l G tt sa hlt H0.size K a b d wd fa od hd qc qs bc bs tl rl H q w fr tr g re fi ro im r pk cz lh lp se md ff x1 ao vo _ e1 bb hA) (vx_cwSW 3 hts gL_law_L_rowCount rfl rfl rfl (by decide +kernel) ⟨Nat.le_of_ble_eq_true rfl, Nat.le_of_ble_eq_true rfl⟩) rfl hl.1 rfl (Nat.le_of_ble_eq_true rfl) dL_law_1184 ⟨hc1, hs1⟩ (fun rr u H0 locs hw hP hD hS => ?_)
  obtain ⟨hw1, hw2⟩ := hw
  replace hw1 := hw1.symm; subst hw1
  replace hw2 := hw2.symm; subst hw2
  have hP : va_P G vwCl (wM tt c now before chg th row comes layer rounds value place places made lq left gone ++ ((ao, zoc tt (zout Int32.toInt64 vo e)) :: wL tt a b d wd fa od hd qc qs bc bs tl rl H q' w' fr' tr g' re' fi' ro' im' r pk cz lh lp se md ff)) H0 := hP
  have hD : va_D (fun q : Nat => s.heap.size ≤ q) (wM tt c now before chg th row comes layer rounds value place places made lq left gone ++ ((ao, zoc tt (zout Int32.toInt64 vo e)) :: wL tt a b d wd fa od hd qc qs bc bs tl rl H q' w' fr' tr g' re' fi' ro' im' r pk cz lh lp se md ff)) := hD
  refine lv_istore (lv' := [(5, .int bb.2), (0, .ref sb), (1, .ref (a 0)), (2, .ref (c 0)), (3, .ref ao), (4, .int iI)]) hx hb dL_law_1187 hl (by decide) rfl (fun ls hl => ?_)
  refine lv_aload_n hx hb dL_law_1189 rfl (lv_at hl 3 rfl) ?_
  refine lv_aload_n hx hb dL_law_1190 rfl (lv_at hl 1 rfl) ?_
  refine lv_iload hx hb dL_law_1191 (lv_at hl 5 rfl) ?_
  refine lv_iconst (v := (1 : Int32)) hx hb dL_law_1193 (by decide) ?_
  refine lv_iadd hx hb dL_law_1194 ?_
  refine va_sld hx hb hX9 hbl hbA hS (zin_L hi hL hiI 1 (by decide) (1 : Int32) rfl) dL_law_1195 ?_
  refine lv_topi (fun x2 ex2 => ?_)
  obtain rfl : x2 = x1 := ex2.trans ex1.symm
  refine z_callVi (wc := wM tt c now before chg th row comes layer rounds value place places made lq left gone) (wr := (ao, zoc tt (zout Int32.toInt64 vo e)) :: wL tt a b d wd fa od hd qc qs bc bs tl rl H q' w' fr' tr g' re' fi' ro' im' r pk cz lh lp se md ff) (As := [.int x2]) (rest := []) (ci := 11) ⟨hx, hb, hml, hown, hts⟩ hK hN hP hD hS hA9 (nX12_rowCount l G tt H0.size K c now before chg th row comes layer rounds value place places made lq left gone x2 _ e2) (cwV 1 hts gL_law_X12_rowCount rfl rfl rfl (by decide +kernel) ⟨Nat.le_of_ble_eq_true rfl, Nat.le_of_ble_eq_true rfl⟩) rfl rfl rfl hl.1 rfl (Nat.le_of_ble_eq_true rfl) dL_law_1196 ⟨hc1, hs1⟩ (fun rr u H0 locs hw hP hD hS => ?_)
  obtain ⟨hw1, hw2⟩ := hw
  replace hw1 := hw1.symm; subst hw1
  replace hw2 := hw2.symm; subst hw2
  have hP : va_P G vwCl (((ao, zoc tt (zout Int32.toInt64 vo e)) :: wL tt a b d wd fa od hd qc qs bc bs tl rl H q' w' fr' tr g' re' fi' ro' im' r pk cz lh lp se md ff) ++ wM tt c now before chg bb.2 row comes layer rounds value place places made lq left gone) H0 := hP
  have hD : va_D (fun q : Nat => s.heap.size ≤ q) (((ao, zoc tt (zout Int32.toInt64 vo e)) :: wL tt a b d wd fa od hd qc qs bc bs tl rl H q' w' fr' tr g' re' fi' ro' im' r pk cz lh lp se md ff) ++ wM tt c now before chg bb.2 row comes layer rounds value place places made lq left gone) := hD
  refine lv_istore (lv' := [(6, .int bb.1), (5, .int bb.2), (0, .ref sb), (1, .ref (a 0)), (2, .ref (c 0)), (3, .ref ao), (4, .int iI)]) hx hb dL_law_1199 hl (by decide) rfl (fun ls hl => ?_)
  refine lv_aload_n hx hb dL_law_1201 rfl (lv_at hl 4 rfl) ?_
  have hP := zP_perm (List.perm_append_comm (l₁ := (ao, zoc tt (zout Int32.toInt64 vo e)) :: wL tt a b d wd fa od hd qc qs bc bs tl rl H q' w' fr' tr g' re' fi' ro' im' r pk cz lh lp se md ff) (l₂ := wM tt c now before chg bb.2 row comes layer rounds value place places made lq left gone)) hP
  have hD := zD_perm (List.perm_append_comm (l₁ := (ao, zoc tt (zout Int32.toInt64 vo e)) :: wL tt a b d wd fa od hd qc qs bc bs tl rl H q' w' fr' tr g' re' fi' ro' im' r pk cz lh lp se md ff) (l₂ := wM tt c now before chg bb.2 row comes layer rounds value place places made lq left gone)) hD
  refine z_callVi (wc := wM tt c now before chg bb.2 row comes layer rounds value place places made lq left gone) (wr := (ao, zoc tt (zout Int32.toInt64 vo e)) :: wL tt a b d wd fa od hd qc qs bc bs tl rl H q' w' fr' tr g' re' fi' ro' im' r pk cz lh lp se md ff) (As := []) (rest := []) (ci := 11) ⟨hx, hb, hml, hown, hts⟩ hK hN hP hD hS hA9 (nX12_thrown l G tt H0.size c now before chg bb.2 row comes layer rounds value place places made lq left gone bb.2 rfl) (cwV 0 hts gL_law_X12_thrown rfl rfl rfl (by decide +kernel) ⟨Nat.le_of_ble_eq_true rfl, Nat.le_of_ble_eq_true rfl⟩) rfl rfl rfl hl.1 rfl (Nat.le_of_ble_eq_true rfl) dL_law_1202 ⟨hc1, hs1⟩ (fun rr u H0 locs hw hP hD hS => ?_)
  replace hw := hw.symm; subst hw
  have hP : va_P G vwCl (((ao, zoc tt (zout Int32.toInt64 vo e)) :: wL tt a b d wd fa od hd qc qs bc bs tl rl H q' w' fr' tr g' re' fi' ro' im' r pk cz lh lp se md ff) ++ wM tt c now before chg bb.2 row comes layer rounds value place places made lq left gone) H0 := hP
  have hD : va_D (fun q : Nat => s.heap.size ≤ q) (((ao, zoc tt (zout Int32.toInt64 vo e)) :: wL tt a b d wd fa od hd qc qs bc bs tl rl H q' w' fr' tr g' re' fi' ro' im' r pk cz lh lp se md ff) ++ wM tt c now before chg bb.2 row comes layer rounds value place places made lq left gone) := hD
  refine lv_iload hx hb dL_law_1205 (lv_at hl 1 rfl) ?_
  refine lv_icmp_eq (tgt := 1212) hx hb dL_law_1207 (by decide) (fun _ => ?_) (fun h9 => absurd rfl h9)
  refine lv_iload hx hb dL_law_1212 (lv_at hl 1 rfl) ?_
  rcases hA with ⟨k9, hk9, ek, rfl⟩ | ⟨v9, ev, rfl⟩
  · refine lv_if_ne (tgt := 1229) hx hb dL_law_1214 (by decide) (fun _ => ?_) (fun h9 => absurd h9 (fun h => zcd_ne k9 h))
    refine lv_goto (tgt := 2784) hx hb dL_law_1229 (by decide) ?_
    refine z_widen (k := ce + 4) (n := sl + 24) (by omega) (by omega) ?_
    exact kk H0 locs ls ⟨wd, fa, od, hd, qc, qs, bc, bs, tl, rl, H, q', w', fr', tr, g', re', fi', ro', im', r, pk, cz, lh, lp, se, md, ff, now, before, chg, _, row, comes, layer, rounds, value, place, places, made, lq, left, gone, (zout Int32.toInt64 vo e), hI', hP, hD⟩ hS (lv_sub hl [2, 3, 4, 5, 6] rfl)
  · refine lv_if_ne (tgt := 1229) hx hb dL_law_1214 (by decide) (fun h9 => absurd rfl h9) (fun _ => ?_)
    refine lv_aload_n hx hb dL_law_1217 rfl (lv_at hl 5 rfl) ?_
    refine lv_iconst (v := (0 : Int32)) hx hb dL_law_1218 (by decide) ?_
    refine va_lald hx hb hK hP 0 1 rfl rfl (inB_vp (by decide)) dL_law_1219 ?_
    refine lv_iload hx hb dL_law_1220 (lv_at hl 0 rfl) ?_
    refine lv_i2l hx hb dL_law_1222 rfl ?_
    refine W.lcmp hx hb dL_law_1223 ?_
    refine lv_if_eq (tgt := 1229) hx hb dL_law_1224 (by decide) (fun _ => ?_) (fun h9 => absurd ((lg_cmp_eq _ _).mpr (by subst ev; exact (zout_at Int32.toInt64 vo v9))) h9)
    refine lv_goto (tgt := 2784) hx hb dL_law_1229 (by decide) ?_
    refine z_widen (k := ce + 4) (n := sl + 24) (by omega) (by omega) ?_
    exact kk H0 locs ls ⟨wd, fa, od, hd, qc, qs, bc, bs, tl, rl, H, q', w', fr', tr, g', re', fi', ro', im', r, pk, cz, lh, lp, se, md, ff, now, before, chg, _, row, comes, layer, rounds, value, place, places, made, lq, left, gone, (zout Int32.toInt64 vo e), hI', hP, hD⟩ hS (lv_sub hl [2, 3, 4, 5, 6] rfl)

set_option maxHeartbeats 4000000 in
set_option maxRecDepth 100000 in
theorem zarm_isFact (K : Nat) (hK9 : 1000000 < K) {p : Program} {l : Launch} {e0 : Env} {s : State} {m : MethodId} {below : List Frame} {meth : Method} {cd : Code} {sb L : Nat} {xs : Nat → Int32} {G : va_G} {tt : Nat → ClassId} {sa : Nat → Nat} (C : zCtx p l s m meth cd sb L xs G tt sa) (a : Nat → Nat) (b : Nat → Nat → Nat) (d : Nat → Nat → Nat → Nat) (c : Nat → Nat) (ao : Nat) {i : Nat} {iI : Int32} (hi : i + 7 ≤ L) (hiI : iI = nI i) {ce sl : Nat} (hce : ce ≤ 600000) (hsl : sl ≤ 7290000) {H0 : Heap} {locs : List Loc} (hw : zWorld G tt a b d c ao (fun q : Nat => s.heap.size ≤ q) H0) (hS : va_S (fun q : Nat => s.heap.size ≤ q) s.heap H0 locs) {ls : Array Slot} (hl : lv_has ls 9 [(0, .ref sb), (1, .ref (a 0)), (2, .ref (c 0)), (3, .ref ao), (4, .int iI)])
    (kk : ∀ (H1 : Heap) (locs1 : List Loc) (ls1 : Array Slot), zWorld G tt a b d c ao (fun q : Nat => s.heap.size ≤ q) H1 → va_S (fun q : Nat => s.heap.size ≤ q) s.heap H1 locs1 → lv_has ls1 9 [(0, .ref sb), (1, .ref (a 0)), (2, .ref (c 0)), (3, .ref ao), (4, .int iI)] → W p l e0 room_1 s m #[Value.ref sb] below meth cd H1 locs1 (ce + 4) (sl + 24) (lw_Z below #[Value.ref sb] s) (F0 m 2784 ls1 [])) :
    W p l e0 room_1 s m #[Value.ref sb] below meth cd H0 locs ce sl (lw_Z below #[Value.ref sb] s) (F0 m 1232 ls []) := by
  obtain ⟨wd, fa, od, hd, qc, qs, bc, bs, tl, rl, H, q, w, fr, tr, g, re, fi, ro, im, r, pk, cz, lh, lp, se, md, ff, now, before, chg, th, row, comes, layer, rounds, value, place, places, made, lq, left, gone, vo, hI, hP, hD⟩ := hw
  obtain ⟨hlt, hL, C0, hK, hN, hX, hNc⟩ := C
  obtain ⟨hx, hb, hr, hml, hown, hts0, hX9, hbl, hlocks, hgv⟩ := C0
  have hts : ∀ w ∈ wsL_law, w.before #[Value.ref sb] s = true := fun w h => hts0 w (zL_law w h)
  have hown : s.vm.findClass RL = some m.cls := hown
  have hA9 : ∀ q : Nat, s.heap.size ≤ q → (fun q : Nat => s.heap.size ≤ q) q := fun _ h => h
  have hbA : ¬ (fun q : Nat => s.heap.size ≤ q) sb := Nat.not_le.mpr hbl
  have hc0 : ce ≤ room_1.cells := by show ce ≤ 601024; omega
  have hs0 : sl ≤ room_1.slots := by show sl ≤ 7293034; omega
  have hc1 : ce + 2 ≤ room_1.cells := by show ce + 2 ≤ 601024; omega
  have hs1 : sl + 12 ≤ room_1.slots := by show sl + 12 ≤ 7293034; omega
  refine lv_aload_n hx hb dL_law_1232 rfl (lv_at hl 1 rfl) ?_
  refine lv_aload_n hx hb dL_law_1233 rfl (lv_at hl 0 rfl) ?_
  refine lv_iload hx hb dL_law_1234 (lv_at hl 4 rfl) ?_
  refine lv_iconst (v := (1 : Int32)) hx hb dL_law_1236 (by decide) ?_
  refine lv_iadd hx hb dL_law_1237 ?_
  refine va_sld hx hb hX9 hbl hbA hS (zin_L hi hL hiI 1 (by decide) (1 : Int32) rfl) dL_law_1238 ?_
  refine lv_topi (fun x1 ex1 => ?_)
  refine lv_aload_n hx hb dL_law_1239 rfl (lv_at hl 0 rfl) ?_
  refine lv_iload hx hb dL_law_1240 (lv_at hl 4 rfl) ?_
  refine lv_iconst (v := (2 : Int32)) hx hb dL_law_1242 (by decide) ?_
  refine lv_iadd hx hb dL_law_1243 ?_
  refine va_sld hx hb hX9 hbl hbA hS (zin_L hi hL hiI 2 (by decide) (2 : Int32) rfl) dL_law_1244 ?_
  refine lv_topi (fun x2 ex2 => ?_)
  refine lv_aload_n hx hb dL_law_1245 rfl (lv_at hl 0 rfl) ?_
  refine lv_iload hx hb dL_law_1246 (lv_at hl 4 rfl) ?_
  refine lv_iconst (v := (3 : Int32)) hx hb dL_law_1248 (by decide) ?_
  refine lv_iadd hx hb dL_law_1249 ?_
  refine va_sld hx hb hX9 hbl hbA hS (zin_L hi hL hiI 3 (by decide) (3 : Int32) rfl) dL_law_1250 ?_
  refine lv_topi (fun x3 ex3 => ?_)
  refine lv_aload_n hx hb dL_law_1251 rfl (lv_at hl 0 rfl) ?_
  refine lv_iload hx hb dL_law_1252 (lv_at hl 4 rfl) ?_
  refine lv_iconst (v := (4 : Int32)) hx hb dL_law_1254 (by decide) ?_
  refine lv_iadd hx hb dL_law_1255 ?_
  refine va_sld hx hb hX9 hbl hbA hS (zin_L hi hL hiI 4 (by decide) (4 : Int32) rfl) dL_law_1256 ?_
  refine lv_topi (fun x4 ex4 => ?_)
  refine lv_aload_n hx hb dL_law_1257 rfl (lv_at hl 3 rfl) ?_
  obtain ⟨e, bb, e1, e2, hA⟩ := zI_isFact K hK9 hI x1 x2 x3 x4 th
  refine z_callW (wc := (ao, zoc tt vo) :: wL tt a b d wd fa od hd qc qs bc bs tl rl H q w fr tr g re fi ro im r pk cz lh lp se md ff) (wr := wM tt c now before chg th row comes layer rounds value place places made lq left gone) (As := [.ref (a 0), .int x1, .int x2, .int x3, .int x4, .ref ao]) (rest := []) ⟨hx, hb, hml, hown, hts⟩ hK hN hX hNc hP hD hS hA9 (mL_isFact l G tt sa hlt H0.size a b d wd fa od hd qc qs bc bs tl rl H q w fr tr g re fi ro im r pk cz lh lp se md ff x1 x2 x3 x4 ao vo _ e1 bb hA) (vx_cwSW 6 hts gL_law_L_isFact rfl rfl rfl (by decide +kernel) ⟨Nat.le_of_ble_eq_true rfl, Nat.le_of_ble_eq_true rfl⟩) rfl hl.1 rfl (Nat.le_of_ble_eq_true rfl) dL_law_1258 ⟨hc1, hs1⟩ (fun rr u H0 locs hw hP hD hS => ?_)
  obtain ⟨hw1, hw2⟩ := hw
  replace hw1 := hw1.symm; subst hw1
  replace hw2 := hw2.symm; subst hw2
  have hP : va_P G vwCl (wM tt c now before chg th row comes layer rounds value place places made lq left gone ++ ((ao, zoc tt (zout zbL vo e)) :: wL tt a b d wd fa od hd qc qs bc bs tl rl H q w fr tr g re fi ro im r pk cz lh lp se md ff)) H0 := hP
  have hD : va_D (fun q : Nat => s.heap.size ≤ q) (wM tt c now before chg th row comes layer rounds value place places made lq left gone ++ ((ao, zoc tt (zout zbL vo e)) :: wL tt a b d wd fa od hd qc qs bc bs tl rl H q w fr tr g re fi ro im r pk cz lh lp se md ff)) := hD
  refine lv_istore (lv' := [(5, .int bb.2), (0, .ref sb), (1, .ref (a 0)), (2, .ref (c 0)), (3, .ref ao), (4, .int iI)]) hx hb dL_law_1261 hl (by decide) rfl (fun ls hl => ?_)
  refine lv_aload_n hx hb dL_law_1263 rfl (lv_at hl 3 rfl) ?_
  refine lv_aload_n hx hb dL_law_1264 rfl (lv_at hl 1 rfl) ?_
  refine lv_iload hx hb dL_law_1265 (lv_at hl 5 rfl) ?_
  refine lv_iconst (v := (1 : Int32)) hx hb dL_law_1267 (by decide) ?_
  refine lv_iadd hx hb dL_law_1268 ?_
  refine va_sld hx hb hX9 hbl hbA hS (zin_L hi hL hiI 1 (by decide) (1 : Int32) rfl) dL_law_1269 ?_
  refine lv_topi (fun x5 ex5 => ?_)
  obtain rfl : x5 = x1 := ex5.trans ex1.symm
  refine lv_aload_n hx hb dL_law_1270 rfl (lv_at hl 1 rfl) ?_
  refine lv_iload hx hb dL_law_1271 (lv_at hl 5 rfl) ?_
  refine lv_iconst (v := (2 : Int32)) hx hb dL_law_1273 (by decide) ?_
  refine lv_iadd hx hb dL_law_1274 ?_
  refine va_sld hx hb hX9 hbl hbA hS (zin_L hi hL hiI 2 (by decide) (2 : Int32) rfl) dL_law_1275 ?_
  refine lv_topi (fun x6 ex6 => ?_)
  obtain rfl : x6 = x2 := ex6.trans ex2.symm
  refine lv_aload_n hx hb dL_law_1276 rfl (lv_at hl 1 rfl) ?_
  refine lv_iload hx hb dL_law_1277 (lv_at hl 5 rfl) ?_
  refine lv_iconst (v := (3 : Int32)) hx hb dL_law_1279 (by decide) ?_
  refine lv_iadd hx hb dL_law_1280 ?_
  refine va_sld hx hb hX9 hbl hbA hS (zin_L hi hL hiI 3 (by decide) (3 : Int32) rfl) dL_law_1281 ?_
  refine lv_topi (fun x7 ex7 => ?_)
  obtain rfl : x7 = x3 := ex7.trans ex3.symm
  refine lv_aload_n hx hb dL_law_1282 rfl (lv_at hl 1 rfl) ?_
  refine lv_iload hx hb dL_law_1283 (lv_at hl 5 rfl) ?_
  refine lv_iconst (v := (4 : Int32)) hx hb dL_law_1285 (by decide) ?_
  refine lv_iadd hx hb dL_law_1286 ?_
  refine va_sld hx hb hX9 hbl hbA hS (zin_L hi hL hiI 4 (by decide) (4 : Int32) rfl) dL_law_1287 ?_
  refine lv_topi (fun x8 ex8 => ?_)
  obtain rfl : x8 = x4 := ex8.trans ex4.symm
  refine z_callVi (wc := wM tt c now before chg th row comes layer rounds value place places made lq left gone) (wr := (ao, zoc tt (zout zbL vo e)) :: wL tt a b d wd fa od hd qc qs bc bs tl rl H q w fr tr g re fi ro im r pk cz lh lp se md ff) (As := [.int x5, .int x6, .int x7, .int x8]) (rest := []) (ci := 11) ⟨hx, hb, hml, hown, hts⟩ hK hN hP hD hS hA9 (nX12_isFact l G tt H0.size c now before chg th row comes layer rounds value place places made lq left gone x5 x6 x7 x8 _ e2) (cwV 4 hts gL_law_X12_isFact rfl rfl rfl (by decide +kernel) ⟨Nat.le_of_ble_eq_true rfl, Nat.le_of_ble_eq_true rfl⟩) rfl rfl rfl hl.1 rfl (Nat.le_of_ble_eq_true rfl) dL_law_1288 ⟨hc1, hs1⟩ (fun rr u H0 locs hw hP hD hS => ?_)
  obtain ⟨hw1, hw2⟩ := hw
  replace hw1 := hw1.symm; subst hw1
  replace hw2 := hw2.symm; subst hw2
  have hP : va_P G vwCl (((ao, zoc tt (zout zbL vo e)) :: wL tt a b d wd fa od hd qc qs bc bs tl rl H q w fr tr g re fi ro im r pk cz lh lp se md ff) ++ wM tt c now before chg bb.2 row comes layer rounds value place places made lq left gone) H0 := hP
  have hD : va_D (fun q : Nat => s.heap.size ≤ q) (((ao, zoc tt (zout zbL vo e)) :: wL tt a b d wd fa od hd qc qs bc bs tl rl H q w fr tr g re fi ro im r pk cz lh lp se md ff) ++ wM tt c now before chg bb.2 row comes layer rounds value place places made lq left gone) := hD
  refine lv_istore (lv' := [(6, .int (bI bb.1)), (5, .int bb.2), (0, .ref sb), (1, .ref (a 0)), (2, .ref (c 0)), (3, .ref ao), (4, .int iI)]) hx hb dL_law_1291 hl (by decide) rfl (fun ls hl => ?_)
  refine lv_aload_n hx hb dL_law_1293 rfl (lv_at hl 4 rfl) ?_
  have hP := zP_perm (List.perm_append_comm (l₁ := (ao, zoc tt (zout zbL vo e)) :: wL tt a b d wd fa od hd qc qs bc bs tl rl H q w fr tr g re fi ro im r pk cz lh lp se md ff) (l₂ := wM tt c now before chg bb.2 row comes layer rounds value place places made lq left gone)) hP
  have hD := zD_perm (List.perm_append_comm (l₁ := (ao, zoc tt (zout zbL vo e)) :: wL tt a b d wd fa od hd qc qs bc bs tl rl H q w fr tr g re fi ro im r pk cz lh lp se md ff) (l₂ := wM tt c now before chg bb.2 row comes layer rounds value place places made lq left gone)) hD
  refine z_callVi (wc := wM tt c now before chg bb.2 row comes layer rounds value place places made lq left gone) (wr := (ao, zoc tt (zout zbL vo e)) :: wL tt a b d wd fa od hd qc qs bc bs tl rl H q w fr tr g re fi ro im r pk cz lh lp se md ff) (As := []) (rest := []) (ci := 11) ⟨hx, hb, hml, hown, hts⟩ hK hN hP hD hS hA9 (nX12_thrown l G tt H0.size c now before chg bb.2 row comes layer rounds value place places made lq left gone bb.2 rfl) (cwV 0 hts gL_law_X12_thrown rfl rfl rfl (by decide +kernel) ⟨Nat.le_of_ble_eq_true rfl, Nat.le_of_ble_eq_true rfl⟩) rfl rfl rfl hl.1 rfl (Nat.le_of_ble_eq_true rfl) dL_law_1294 ⟨hc1, hs1⟩ (fun rr u H0 locs hw hP hD hS => ?_)
  replace hw := hw.symm; subst hw
  have hP : va_P G vwCl (((ao, zoc tt (zout zbL vo e)) :: wL tt a b d wd fa od hd qc qs bc bs tl rl H q w fr tr g re fi ro im r pk cz lh lp se md ff) ++ wM tt c now before chg bb.2 row comes layer rounds value place places made lq left gone) H0 := hP
  have hD : va_D (fun q : Nat => s.heap.size ≤ q) (((ao, zoc tt (zout zbL vo e)) :: wL tt a b d wd fa od hd qc qs bc bs tl rl H q w fr tr g re fi ro im r pk cz lh lp se md ff) ++ wM tt c now before chg bb.2 row comes layer rounds value place places made lq left gone) := hD
  refine lv_iload hx hb dL_law_1297 (lv_at hl 1 rfl) ?_
  refine lv_icmp_eq (tgt := 1304) hx hb dL_law_1299 (by decide) (fun _ => ?_) (fun h9 => absurd rfl h9)
  refine lv_iload hx hb dL_law_1304 (lv_at hl 1 rfl) ?_
  rcases hA with ⟨k9, hk9, ek, rfl⟩ | ⟨v9, ev, rfl⟩
  · refine lv_if_ne (tgt := 1328) hx hb dL_law_1306 (by decide) (fun _ => ?_) (fun h9 => absurd h9 (fun h => zcd_ne k9 h))
    refine lv_goto (tgt := 2784) hx hb dL_law_1328 (by decide) ?_
    refine z_widen (k := ce + 4) (n := sl + 24) (by omega) (by omega) ?_
    exact kk H0 locs ls ⟨wd, fa, od, hd, qc, qs, bc, bs, tl, rl, H, q, w, fr, tr, g, re, fi, ro, im, r, pk, cz, lh, lp, se, md, ff, now, before, chg, _, row, comes, layer, rounds, value, place, places, made, lq, left, gone, (zout zbL vo e), hI, hP, hD⟩ hS (lv_sub hl [2, 3, 4, 5, 6] rfl)
  · refine lv_if_ne (tgt := 1328) hx hb dL_law_1306 (by decide) (fun h9 => absurd rfl h9) (fun _ => ?_)
    refine lv_aload_n hx hb dL_law_1309 rfl (lv_at hl 5 rfl) ?_
    refine lv_iconst (v := (0 : Int32)) hx hb dL_law_1310 (by decide) ?_
    refine va_lald hx hb hK hP 0 1 rfl rfl (inB_vp (by decide)) dL_law_1311 ?_
    refine lv_iload hx hb dL_law_1312 (lv_at hl 0 rfl) ?_
    cases v9
    · refine lv_if_eq (tgt := 1321) hx hb dL_law_1314 (by decide) (fun _ => ?_) (fun h9 => absurd rfl h9)
      refine lv_lconst (v := (0 : Int64)) hx hb dL_law_1321 (by decide) ?_
      refine W.lcmp hx hb dL_law_1322 ?_
      refine lv_if_eq (tgt := 1328) hx hb dL_law_1323 (by decide) (fun _ => ?_) (fun h9 => absurd ((lg_cmp_eq _ _).mpr (by subst ev; exact (zout_at zbL vo false))) h9)
      refine lv_goto (tgt := 2784) hx hb dL_law_1328 (by decide) ?_
      refine z_widen (k := ce + 4) (n := sl + 24) (by omega) (by omega) ?_
      exact kk H0 locs ls ⟨wd, fa, od, hd, qc, qs, bc, bs, tl, rl, H, q, w, fr, tr, g, re, fi, ro, im, r, pk, cz, lh, lp, se, md, ff, now, before, chg, _, row, comes, layer, rounds, value, place, places, made, lq, left, gone, (zout zbL vo e), hI, hP, hD⟩ hS (lv_sub hl [2, 3, 4, 5, 6] rfl)
    · refine lv_if_eq (tgt := 1321) hx hb dL_law_1314 (by decide) (fun h9 => absurd h9 (by decide)) (fun _ => ?_)
      refine lv_lconst (v := (1 : Int64)) hx hb dL_law_1317 (by decide) ?_
      refine lv_goto (tgt := 1322) hx hb dL_law_1318 (by decide) ?_
      refine W.lcmp hx hb dL_law_1322 ?_
      refine lv_if_eq (tgt := 1328) hx hb dL_law_1323 (by decide) (fun _ => ?_) (fun h9 => absurd ((lg_cmp_eq _ _).mpr (by subst ev; exact (zout_at zbL vo true))) h9)
      refine lv_goto (tgt := 2784) hx hb dL_law_1328 (by decide) ?_
      refine z_widen (k := ce + 4) (n := sl + 24) (by omega) (by omega) ?_
      exact kk H0 locs ls ⟨wd, fa, od, hd, qc, qs, bc, bs, tl, rl, H, q, w, fr, tr, g, re, fi, ro, im, r, pk, cz, lh, lp, se, md, ff, now, before, chg, _, row, comes, layer, rounds, value, place, places, made, lq, left, gone, (zout zbL vo e), hI, hP, hD⟩ hS (lv_sub hl [2, 3, 4, 5, 6] rfl)

set_option maxHeartbeats 4000000 in
set_option maxRecDepth 100000 in
theorem zarm_reasons (K : Nat) (hK9 : 1000000 < K) {p : Program} {l : Launch} {e0 : Env} {s : State} {m : MethodId} {below : List Frame} {meth : Method} {cd : Code} {sb L : Nat} {xs : Nat → Int32} {G : va_G} {tt : Nat → ClassId} {sa : Nat → Nat} (C : zCtx p l s m meth cd sb L xs G tt sa) (a : Nat → Nat) (b : Nat → Nat → Nat) (d : Nat → Nat → Nat → Nat) (c : Nat → Nat) (ao : Nat) {i : Nat} {iI : Int32} (hi : i + 7 ≤ L) (hiI : iI = nI i) {ce sl : Nat} (hce : ce ≤ 600000) (hsl : sl ≤ 7290000) {H0 : Heap} {locs : List Loc} (hw : zWorld G tt a b d c ao (fun q : Nat => s.heap.size ≤ q) H0) (hS : va_S (fun q : Nat => s.heap.size ≤ q) s.heap H0 locs) {ls : Array Slot} (hl : lv_has ls 9 [(0, .ref sb), (1, .ref (a 0)), (2, .ref (c 0)), (3, .ref ao), (4, .int iI)])
    (kk : ∀ (H1 : Heap) (locs1 : List Loc) (ls1 : Array Slot), zWorld G tt a b d c ao (fun q : Nat => s.heap.size ≤ q) H1 → va_S (fun q : Nat => s.heap.size ≤ q) s.heap H1 locs1 → lv_has ls1 9 [(0, .ref sb), (1, .ref (a 0)), (2, .ref (c 0)), (3, .ref ao), (4, .int iI)] → W p l e0 room_1 s m #[Value.ref sb] below meth cd H1 locs1 (ce + 4) (sl + 24) (lw_Z below #[Value.ref sb] s) (F0 m 2784 ls1 [])) :
    W p l e0 room_1 s m #[Value.ref sb] below meth cd H0 locs ce sl (lw_Z below #[Value.ref sb] s) (F0 m 1331 ls []) := by
  obtain ⟨wd, fa, od, hd, qc, qs, bc, bs, tl, rl, H, q, w, fr, tr, g, re, fi, ro, im, r, pk, cz, lh, lp, se, md, ff, now, before, chg, th, row, comes, layer, rounds, value, place, places, made, lq, left, gone, vo, hI, hP, hD⟩ := hw
  obtain ⟨hlt, hL, C0, hK, hN, hX, hNc⟩ := C
  obtain ⟨hx, hb, hr, hml, hown, hts0, hX9, hbl, hlocks, hgv⟩ := C0
  have hts : ∀ w ∈ wsL_law, w.before #[Value.ref sb] s = true := fun w h => hts0 w (zL_law w h)
  have hown : s.vm.findClass RL = some m.cls := hown
  have hA9 : ∀ q : Nat, s.heap.size ≤ q → (fun q : Nat => s.heap.size ≤ q) q := fun _ h => h
  have hbA : ¬ (fun q : Nat => s.heap.size ≤ q) sb := Nat.not_le.mpr hbl
  have hc0 : ce ≤ room_1.cells := by show ce ≤ 601024; omega
  have hs0 : sl ≤ room_1.slots := by show sl ≤ 7293034; omega
  have hc1 : ce + 2 ≤ room_1.cells := by show ce + 2 ≤ 601024; omega
  have hs1 : sl + 12 ≤ room_1.slots := by show sl + 12 ≤ 7293034; omega
  refine lv_aload_n hx hb dL_law_1331 rfl (lv_at hl 1 rfl) ?_
  refine lv_aload_n hx hb dL_law_1332 rfl (lv_at hl 0 rfl) ?_
  refine lv_iload hx hb dL_law_1333 (lv_at hl 4 rfl) ?_
  refine lv_iconst (v := (1 : Int32)) hx hb dL_law_1335 (by decide) ?_
  refine lv_iadd hx hb dL_law_1336 ?_
  refine va_sld hx hb hX9 hbl hbA hS (zin_L hi hL hiI 1 (by decide) (1 : Int32) rfl) dL_law_1337 ?_
  refine lv_topi (fun x1 ex1 => ?_)
  refine lv_aload_n hx hb dL_law_1338 rfl (lv_at hl 0 rfl) ?_
  refine lv_iload hx hb dL_law_1339 (lv_at hl 4 rfl) ?_
  refine lv_iconst (v := (2 : Int32)) hx hb dL_law_1341 (by decide) ?_
  refine lv_iadd hx hb dL_law_1342 ?_
  refine va_sld hx hb hX9 hbl hbA hS (zin_L hi hL hiI 2 (by decide) (2 : Int32) rfl) dL_law_1343 ?_
  refine lv_topi (fun x2 ex2 => ?_)
  refine lv_aload_n hx hb dL_law_1344 rfl (lv_at hl 0 rfl) ?_
  refine lv_iload hx hb dL_law_1345 (lv_at hl 4 rfl) ?_
  refine lv_iconst (v := (3 : Int32)) hx hb dL_law_1347 (by decide) ?_
  refine lv_iadd hx hb dL_law_1348 ?_
  refine va_sld hx hb hX9 hbl hbA hS (zin_L hi hL hiI 3 (by decide) (3 : Int32) rfl) dL_law_1349 ?_
  refine lv_topi (fun x3 ex3 => ?_)
  refine lv_aload_n hx hb dL_law_1350 rfl (lv_at hl 0 rfl) ?_
  refine lv_iload hx hb dL_law_1351 (lv_at hl 4 rfl) ?_
  refine lv_iconst (v := (4 : Int32)) hx hb dL_law_1353 (by decide) ?_
  refine lv_iadd hx hb dL_law_1354 ?_
  refine va_sld hx hb hX9 hbl hbA hS (zin_L hi hL hiI 4 (by decide) (4 : Int32) rfl) dL_law_1355 ?_
  refine lv_topi (fun x4 ex4 => ?_)
  refine lv_aload_n hx hb dL_law_1356 rfl (lv_at hl 3 rfl) ?_
  obtain ⟨e, bb, value', q', w', fr', g', re', fi', ro', im', e1, e2, hA, hI'⟩ := zI_reasons K hK9 hI q fr x1 x2 x3 x4 th
  unfold zapg at e1
  refine z_callW (wc := (ao, zoc tt vo) :: wL tt a b d wd fa od hd qc qs bc bs tl rl H q w fr tr g re fi ro im r pk cz lh lp se md ff) (wr := wM tt c now before chg th row comes layer rounds value place places made lq left gone) (As := [.ref (a 0), .int x1, .int x2, .int x3, .int x4, .ref ao]) (rest := []) ⟨hx, hb, hml, hown, hts⟩ hK hN hX hNc hP hD hS hA9 (mL_reasons l G tt sa hlt H0.size K a b d wd fa od hd qc qs bc bs tl rl H q w fr tr g re fi ro im r pk cz lh lp se md ff x1 x2 x3 x4 ao vo _ e1 bb hA) (vx_cwSW 6 hts gL_law_L_reasons rfl rfl rfl (by decide +kernel) ⟨Nat.le_of_ble_eq_true rfl, Nat.le_of_ble_eq_true rfl⟩) rfl hl.1 rfl (Nat.le_of_ble_eq_true rfl) dL_law_1357 ⟨hc1, hs1⟩ (fun rr u H0 locs hw hP hD hS => ?_)
  obtain ⟨hw1, hw2⟩ := hw
  replace hw1 := hw1.symm; subst hw1
  replace hw2 := hw2.symm; subst hw2
  have hP : va_P G vwCl (wM tt c now before chg th row comes layer rounds value place places made lq left gone ++ ((ao, zoc tt (zout Int32.toInt64 vo e)) :: wL tt a b d wd fa od hd qc qs bc bs tl rl H q' w' fr' tr g' re' fi' ro' im' r pk cz lh lp se md ff)) H0 := hP
  have hD : va_D (fun q : Nat => s.heap.size ≤ q) (wM tt c now before chg th row comes layer rounds value place places made lq left gone ++ ((ao, zoc tt (zout Int32.toInt64 vo e)) :: wL tt a b d wd fa od hd qc qs bc bs tl rl H q' w' fr' tr g' re' fi' ro' im' r pk cz lh lp se md ff)) := hD
  refine lv_istore (lv' := [(5, .int bb.2), (0, .ref sb), (1, .ref (a 0)), (2, .ref (c 0)), (3, .ref ao), (4, .int iI)]) hx hb dL_law_1360 hl (by decide) rfl (fun ls hl => ?_)
  refine lv_aload_n hx hb dL_law_1362 rfl (lv_at hl 3 rfl) ?_
  refine lv_aload_n hx hb dL_law_1363 rfl (lv_at hl 1 rfl) ?_
  refine lv_iload hx hb dL_law_1364 (lv_at hl 5 rfl) ?_
  refine lv_iconst (v := (1 : Int32)) hx hb dL_law_1366 (by decide) ?_
  refine lv_iadd hx hb dL_law_1367 ?_
  refine va_sld hx hb hX9 hbl hbA hS (zin_L hi hL hiI 1 (by decide) (1 : Int32) rfl) dL_law_1368 ?_
  refine lv_topi (fun x5 ex5 => ?_)
  obtain rfl : x5 = x1 := ex5.trans ex1.symm
  refine lv_aload_n hx hb dL_law_1369 rfl (lv_at hl 1 rfl) ?_
  refine lv_iload hx hb dL_law_1370 (lv_at hl 5 rfl) ?_
  refine lv_iconst (v := (2 : Int32)) hx hb dL_law_1372 (by decide) ?_
  refine lv_iadd hx hb dL_law_1373 ?_
  refine va_sld hx hb hX9 hbl hbA hS (zin_L hi hL hiI 2 (by decide) (2 : Int32) rfl) dL_law_1374 ?_
  refine lv_topi (fun x6 ex6 => ?_)
  obtain rfl : x6 = x2 := ex6.trans ex2.symm
  refine lv_aload_n hx hb dL_law_1375 rfl (lv_at hl 1 rfl) ?_
  refine lv_iload hx hb dL_law_1376 (lv_at hl 5 rfl) ?_
  refine lv_iconst (v := (3 : Int32)) hx hb dL_law_1378 (by decide) ?_
  refine lv_iadd hx hb dL_law_1379 ?_
  refine va_sld hx hb hX9 hbl hbA hS (zin_L hi hL hiI 3 (by decide) (3 : Int32) rfl) dL_law_1380 ?_
  refine lv_topi (fun x7 ex7 => ?_)
  obtain rfl : x7 = x3 := ex7.trans ex3.symm
  refine lv_aload_n hx hb dL_law_1381 rfl (lv_at hl 1 rfl) ?_
  refine lv_iload hx hb dL_law_1382 (lv_at hl 5 rfl) ?_
  refine lv_iconst (v := (4 : Int32)) hx hb dL_law_1384 (by decide) ?_
  refine lv_iadd hx hb dL_law_1385 ?_
  refine va_sld hx hb hX9 hbl hbA hS (zin_L hi hL hiI 4 (by decide) (4 : Int32) rfl) dL_law_1386 ?_
  refine lv_topi (fun x8 ex8 => ?_)
  obtain rfl : x8 = x4 := ex8.trans ex4.symm
  refine z_callVi (wc := wM tt c now before chg th row comes layer rounds value place places made lq left gone) (wr := (ao, zoc tt (zout Int32.toInt64 vo e)) :: wL tt a b d wd fa od hd qc qs bc bs tl rl H q' w' fr' tr g' re' fi' ro' im' r pk cz lh lp se md ff) (As := [.int x5, .int x6, .int x7, .int x8]) (rest := []) (ci := 11) ⟨hx, hb, hml, hown, hts⟩ hK hN hP hD hS hA9 (nX12_reasons l G tt H0.size K c now before chg th row comes layer rounds value place places made lq left gone x5 x6 x7 x8 _ e2) (cwV 4 hts gL_law_X12_reasons rfl rfl rfl (by decide +kernel) ⟨Nat.le_of_ble_eq_true rfl, Nat.le_of_ble_eq_true rfl⟩) rfl rfl rfl hl.1 rfl (Nat.le_of_ble_eq_true rfl) dL_law_1387 ⟨hc1, hs1⟩ (fun rr u H0 locs hw hP hD hS => ?_)
  obtain ⟨hw1, hw2⟩ := hw
  replace hw1 := hw1.symm; subst hw1
  replace hw2 := hw2.symm; subst hw2
  have hP : va_P G vwCl (((ao, zoc tt (zout Int32.toInt64 vo e)) :: wL tt a b d wd fa od hd qc qs bc bs tl rl H q' w' fr' tr g' re' fi' ro' im' r pk cz lh lp se md ff) ++ wM tt c now before chg bb.2 row comes layer rounds value' place places made lq left gone) H0 := hP
  have hD : va_D (fun q : Nat => s.heap.size ≤ q) (((ao, zoc tt (zout Int32.toInt64 vo e)) :: wL tt a b d wd fa od hd qc qs bc bs tl rl H q' w' fr' tr g' re' fi' ro' im' r pk cz lh lp se md ff) ++ wM tt c now before chg bb.2 row comes layer rounds value' place places made lq left gone) := hD
  refine lv_istore (lv' := [(6, .int bb.1), (5, .int bb.2), (0, .ref sb), (1, .ref (a 0)), (2, .ref (c 0)), (3, .ref ao), (4, .int iI)]) hx hb dL_law_1390 hl (by decide) rfl (fun ls hl => ?_)
  refine lv_aload_n hx hb dL_law_1392 rfl (lv_at hl 4 rfl) ?_
  have hP := zP_perm (List.perm_append_comm (l₁ := (ao, zoc tt (zout Int32.toInt64 vo e)) :: wL tt a b d wd fa od hd qc qs bc bs tl rl H q' w' fr' tr g' re' fi' ro' im' r pk cz lh lp se md ff) (l₂ := wM tt c now before chg bb.2 row comes layer rounds value' place places made lq left gone)) hP
  have hD := zD_perm (List.perm_append_comm (l₁ := (ao, zoc tt (zout Int32.toInt64 vo e)) :: wL tt a b d wd fa od hd qc qs bc bs tl rl H q' w' fr' tr g' re' fi' ro' im' r pk cz lh lp se md ff) (l₂ := wM tt c now before chg bb.2 row comes layer rounds value' place places made lq left gone)) hD
  refine z_callVi (wc := wM tt c now before chg bb.2 row comes layer rounds value' place places made lq left gone) (wr := (ao, zoc tt (zout Int32.toInt64 vo e)) :: wL tt a b d wd fa od hd qc qs bc bs tl rl H q' w' fr' tr g' re' fi' ro' im' r pk cz lh lp se md ff) (As := []) (rest := []) (ci := 11) ⟨hx, hb, hml, hown, hts⟩ hK hN hP hD hS hA9 (nX12_thrown l G tt H0.size c now before chg bb.2 row comes layer rounds value' place places made lq left gone bb.2 rfl) (cwV 0 hts gL_law_X12_thrown rfl rfl rfl (by decide +kernel) ⟨Nat.le_of_ble_eq_true rfl, Nat.le_of_ble_eq_true rfl⟩) rfl rfl rfl hl.1 rfl (Nat.le_of_ble_eq_true rfl) dL_law_1393 ⟨hc1, hs1⟩ (fun rr u H0 locs hw hP hD hS => ?_)
  replace hw := hw.symm; subst hw
  have hP : va_P G vwCl (((ao, zoc tt (zout Int32.toInt64 vo e)) :: wL tt a b d wd fa od hd qc qs bc bs tl rl H q' w' fr' tr g' re' fi' ro' im' r pk cz lh lp se md ff) ++ wM tt c now before chg bb.2 row comes layer rounds value' place places made lq left gone) H0 := hP
  have hD : va_D (fun q : Nat => s.heap.size ≤ q) (((ao, zoc tt (zout Int32.toInt64 vo e)) :: wL tt a b d wd fa od hd qc qs bc bs tl rl H q' w' fr' tr g' re' fi' ro' im' r pk cz lh lp se md ff) ++ wM tt c now before chg bb.2 row comes layer rounds value' place places made lq left gone) := hD
  refine lv_iload hx hb dL_law_1396 (lv_at hl 1 rfl) ?_
  refine lv_icmp_eq (tgt := 1403) hx hb dL_law_1398 (by decide) (fun _ => ?_) (fun h9 => absurd rfl h9)
  refine lv_iload hx hb dL_law_1403 (lv_at hl 1 rfl) ?_
  rcases hA with ⟨k9, hk9, ek, rfl⟩ | ⟨v9, ev, rfl⟩
  · refine lv_if_ne (tgt := 1420) hx hb dL_law_1405 (by decide) (fun _ => ?_) (fun h9 => absurd h9 (fun h => zcd_ne k9 h))
    refine lv_goto (tgt := 2784) hx hb dL_law_1420 (by decide) ?_
    refine z_widen (k := ce + 4) (n := sl + 24) (by omega) (by omega) ?_
    exact kk H0 locs ls ⟨wd, fa, od, hd, qc, qs, bc, bs, tl, rl, H, q', w', fr', tr, g', re', fi', ro', im', r, pk, cz, lh, lp, se, md, ff, now, before, chg, _, row, comes, layer, rounds, value', place, places, made, lq, left, gone, (zout Int32.toInt64 vo e), hI', hP, hD⟩ hS (lv_sub hl [2, 3, 4, 5, 6] rfl)
  · refine lv_if_ne (tgt := 1420) hx hb dL_law_1405 (by decide) (fun h9 => absurd rfl h9) (fun _ => ?_)
    refine lv_aload_n hx hb dL_law_1408 rfl (lv_at hl 5 rfl) ?_
    refine lv_iconst (v := (0 : Int32)) hx hb dL_law_1409 (by decide) ?_
    refine va_lald hx hb hK hP 0 1 rfl rfl (inB_vp (by decide)) dL_law_1410 ?_
    refine lv_iload hx hb dL_law_1411 (lv_at hl 0 rfl) ?_
    refine lv_i2l hx hb dL_law_1413 rfl ?_
    refine W.lcmp hx hb dL_law_1414 ?_
    refine lv_if_eq (tgt := 1420) hx hb dL_law_1415 (by decide) (fun _ => ?_) (fun h9 => absurd ((lg_cmp_eq _ _).mpr (by subst ev; exact (zout_at Int32.toInt64 vo v9))) h9)
    refine lv_goto (tgt := 2784) hx hb dL_law_1420 (by decide) ?_
    refine z_widen (k := ce + 4) (n := sl + 24) (by omega) (by omega) ?_
    exact kk H0 locs ls ⟨wd, fa, od, hd, qc, qs, bc, bs, tl, rl, H, q', w', fr', tr, g', re', fi', ro', im', r, pk, cz, lh, lp, se, md, ff, now, before, chg, _, row, comes, layer, rounds, value', place, places, made, lq, left, gone, (zout Int32.toInt64 vo e), hI', hP, hD⟩ hS (lv_sub hl [2, 3, 4, 5, 6] rfl)

set_option maxHeartbeats 4000000 in
set_option maxRecDepth 100000 in
theorem zarm_rowAt (K : Nat) (hK9 : 1000000 < K) {p : Program} {l : Launch} {e0 : Env} {s : State} {m : MethodId} {below : List Frame} {meth : Method} {cd : Code} {sb L : Nat} {xs : Nat → Int32} {G : va_G} {tt : Nat → ClassId} {sa : Nat → Nat} (C : zCtx p l s m meth cd sb L xs G tt sa) (a : Nat → Nat) (b : Nat → Nat → Nat) (d : Nat → Nat → Nat → Nat) (c : Nat → Nat) (ao : Nat) {i : Nat} {iI : Int32} (hi : i + 7 ≤ L) (hiI : iI = nI i) {ce sl : Nat} (hce : ce ≤ 600000) (hsl : sl ≤ 7290000) {H0 : Heap} {locs : List Loc} (hw : zWorld G tt a b d c ao (fun q : Nat => s.heap.size ≤ q) H0) (hS : va_S (fun q : Nat => s.heap.size ≤ q) s.heap H0 locs) {ls : Array Slot} (hl : lv_has ls 9 [(0, .ref sb), (1, .ref (a 0)), (2, .ref (c 0)), (3, .ref ao), (4, .int iI)])
    (kk : ∀ (H1 : Heap) (locs1 : List Loc) (ls1 : Array Slot), zWorld G tt a b d c ao (fun q : Nat => s.heap.size ≤ q) H1 → va_S (fun q : Nat => s.heap.size ≤ q) s.heap H1 locs1 → lv_has ls1 9 [(0, .ref sb), (1, .ref (a 0)), (2, .ref (c 0)), (3, .ref ao), (4, .int iI)] → W p l e0 room_1 s m #[Value.ref sb] below meth cd H1 locs1 (ce + 4) (sl + 24) (lw_Z below #[Value.ref sb] s) (F0 m 2784 ls1 [])) :
    W p l e0 room_1 s m #[Value.ref sb] below meth cd H0 locs ce sl (lw_Z below #[Value.ref sb] s) (F0 m 1423 ls []) := by
  obtain ⟨wd, fa, od, hd, qc, qs, bc, bs, tl, rl, H, q, w, fr, tr, g, re, fi, ro, im, r, pk, cz, lh, lp, se, md, ff, now, before, chg, th, row, comes, layer, rounds, value, place, places, made, lq, left, gone, vo, hI, hP, hD⟩ := hw
  obtain ⟨hlt, hL, C0, hK, hN, hX, hNc⟩ := C
  obtain ⟨hx, hb, hr, hml, hown, hts0, hX9, hbl, hlocks, hgv⟩ := C0
  have hts : ∀ w ∈ wsL_law, w.before #[Value.ref sb] s = true := fun w h => hts0 w (zL_law w h)
  have hown : s.vm.findClass RL = some m.cls := hown
  have hA9 : ∀ q : Nat, s.heap.size ≤ q → (fun q : Nat => s.heap.size ≤ q) q := fun _ h => h
  have hbA : ¬ (fun q : Nat => s.heap.size ≤ q) sb := Nat.not_le.mpr hbl
  have hc0 : ce ≤ room_1.cells := by show ce ≤ 601024; omega
  have hs0 : sl ≤ room_1.slots := by show sl ≤ 7293034; omega
  have hc1 : ce + 3 ≤ room_1.cells := by show ce + 3 ≤ 601024; omega
  have hs1 : sl + 18 ≤ room_1.slots := by show sl + 18 ≤ 7293034; omega
  refine lv_aload_n hx hb dL_law_1423 rfl (lv_at hl 1 rfl) ?_
  refine lv_aload_n hx hb dL_law_1424 rfl (lv_at hl 0 rfl) ?_
  refine lv_iload hx hb dL_law_1425 (lv_at hl 4 rfl) ?_
  refine lv_iconst (v := (1 : Int32)) hx hb dL_law_1427 (by decide) ?_
  refine lv_iadd hx hb dL_law_1428 ?_
  refine va_sld hx hb hX9 hbl hbA hS (zin_L hi hL hiI 1 (by decide) (1 : Int32) rfl) dL_law_1429 ?_
  refine lv_topi (fun x1 ex1 => ?_)
  refine lv_aload_n hx hb dL_law_1430 rfl (lv_at hl 0 rfl) ?_
  refine lv_iload hx hb dL_law_1431 (lv_at hl 4 rfl) ?_
  refine lv_iconst (v := (2 : Int32)) hx hb dL_law_1433 (by decide) ?_
  refine lv_iadd hx hb dL_law_1434 ?_
  refine va_sld hx hb hX9 hbl hbA hS (zin_L hi hL hiI 2 (by decide) (2 : Int32) rfl) dL_law_1435 ?_
  refine lv_topi (fun x2 ex2 => ?_)
  refine lv_aload_n hx hb dL_law_1436 rfl (lv_at hl 0 rfl) ?_
  refine lv_iload hx hb dL_law_1437 (lv_at hl 4 rfl) ?_
  refine lv_iconst (v := (3 : Int32)) hx hb dL_law_1439 (by decide) ?_
  refine lv_iadd hx hb dL_law_1440 ?_
  refine va_sld hx hb hX9 hbl hbA hS (zin_L hi hL hiI 3 (by decide) (3 : Int32) rfl) dL_law_1441 ?_
  refine lv_topi (fun x3 ex3 => ?_)
  refine lv_aload_n hx hb dL_law_1442 rfl (lv_at hl 3 rfl) ?_
  obtain ⟨e, bb, q', w', fr', g', re', fi', ro', im', e1, e2, hA, hI'⟩ := zI_rowAt K hK9 hI q fr x1 x2 x3 th
  unfold zapg at e1
  refine z_callW (wc := (ao, zoc tt vo) :: wL tt a b d wd fa od hd qc qs bc bs tl rl H q w fr tr g re fi ro im r pk cz lh lp se md ff) (wr := wM tt c now before chg th row comes layer rounds value place places made lq left gone) (As := [.ref (a 0), .int x1, .int x2, .int x3, .ref ao]) (rest := []) ⟨hx, hb, hml, hown, hts⟩ hK hN hX hNc hP hD hS hA9 (mL_rowAt l G tt sa hlt H0.size K a b d wd fa od hd qc qs bc bs tl rl H q w fr tr g re fi ro im r pk cz lh lp se md ff x1 x2 x3 ao vo _ e1 bb hA) (vx_cwSW 5 hts gL_law_L_rowAt rfl rfl rfl (by decide +kernel) ⟨Nat.le_of_ble_eq_true rfl, Nat.le_of_ble_eq_true rfl⟩) rfl hl.1 rfl (Nat.le_of_ble_eq_true rfl) dL_law_1443 ⟨hc1, hs1⟩ (fun rr u H0 locs hw hP hD hS => ?_)
  obtain ⟨hw1, hw2⟩ := hw
  replace hw1 := hw1.symm; subst hw1
  replace hw2 := hw2.symm; subst hw2
  have hP : va_P G vwCl (wM tt c now before chg th row comes layer rounds value place places made lq left gone ++ ((ao, zoc tt (zout Int32.toInt64 vo e)) :: wL tt a b d wd fa od hd qc qs bc bs tl rl H q' w' fr' tr g' re' fi' ro' im' r pk cz lh lp se md ff)) H0 := hP
  have hD : va_D (fun q : Nat => s.heap.size ≤ q) (wM tt c now before chg th row comes layer rounds value place places made lq left gone ++ ((ao, zoc tt (zout Int32.toInt64 vo e)) :: wL tt a b d wd fa od hd qc qs bc bs tl rl H q' w' fr' tr g' re' fi' ro' im' r pk cz lh lp se md ff)) := hD
  refine lv_istore (lv' := [(5, .int bb.2), (0, .ref sb), (1, .ref (a 0)), (2, .ref (c 0)), (3, .ref ao), (4, .int iI)]) hx hb dL_law_1446 hl (by decide) rfl (fun ls hl => ?_)
  refine lv_aload_n hx hb dL_law_1448 rfl (lv_at hl 3 rfl) ?_
  refine lv_aload_n hx hb dL_law_1449 rfl (lv_at hl 1 rfl) ?_
  refine lv_iload hx hb dL_law_1450 (lv_at hl 5 rfl) ?_
  refine lv_iconst (v := (1 : Int32)) hx hb dL_law_1452 (by decide) ?_
  refine lv_iadd hx hb dL_law_1453 ?_
  refine va_sld hx hb hX9 hbl hbA hS (zin_L hi hL hiI 1 (by decide) (1 : Int32) rfl) dL_law_1454 ?_
  refine lv_topi (fun x4 ex4 => ?_)
  obtain rfl : x4 = x1 := ex4.trans ex1.symm
  refine lv_aload_n hx hb dL_law_1455 rfl (lv_at hl 1 rfl) ?_
  refine lv_iload hx hb dL_law_1456 (lv_at hl 5 rfl) ?_
  refine lv_iconst (v := (2 : Int32)) hx hb dL_law_1458 (by decide) ?_
  refine lv_iadd hx hb dL_law_1459 ?_
  refine va_sld hx hb hX9 hbl hbA hS (zin_L hi hL hiI 2 (by decide) (2 : Int32) rfl) dL_law_1460 ?_
  refine lv_topi (fun x5 ex5 => ?_)
  obtain rfl : x5 = x2 := ex5.trans ex2.symm
  refine lv_aload_n hx hb dL_law_1461 rfl (lv_at hl 1 rfl) ?_
  refine lv_iload hx hb dL_law_1462 (lv_at hl 5 rfl) ?_
  refine lv_iconst (v := (3 : Int32)) hx hb dL_law_1464 (by decide) ?_
  refine lv_iadd hx hb dL_law_1465 ?_
  refine va_sld hx hb hX9 hbl hbA hS (zin_L hi hL hiI 3 (by decide) (3 : Int32) rfl) dL_law_1466 ?_
  refine lv_topi (fun x6 ex6 => ?_)
  obtain rfl : x6 = x3 := ex6.trans ex3.symm
  refine z_callVi (wc := wM tt c now before chg th row comes layer rounds value place places made lq left gone) (wr := (ao, zoc tt (zout Int32.toInt64 vo e)) :: wL tt a b d wd fa od hd qc qs bc bs tl rl H q' w' fr' tr g' re' fi' ro' im' r pk cz lh lp se md ff) (As := [.int x4, .int x5, .int x6]) (rest := []) (ci := 11) ⟨hx, hb, hml, hown, hts⟩ hK hN hP hD hS hA9 (nX12_rowAt l G tt H0.size K c now before chg th row comes layer rounds value place places made lq left gone x4 x5 x6 _ e2) (cwV 3 hts gL_law_X12_rowAt rfl rfl rfl (by decide +kernel) ⟨Nat.le_of_ble_eq_true rfl, Nat.le_of_ble_eq_true rfl⟩) rfl rfl rfl hl.1 rfl (Nat.le_of_ble_eq_true rfl) dL_law_1467 ⟨hc1, hs1⟩ (fun rr u H0 locs hw hP hD hS => ?_)
  obtain ⟨hw1, hw2⟩ := hw
  replace hw1 := hw1.symm; subst hw1
  replace hw2 := hw2.symm; subst hw2
  have hP : va_P G vwCl (((ao, zoc tt (zout Int32.toInt64 vo e)) :: wL tt a b d wd fa od hd qc qs bc bs tl rl H q' w' fr' tr g' re' fi' ro' im' r pk cz lh lp se md ff) ++ wM tt c now before chg bb.2 row comes layer rounds value place places made lq left gone) H0 := hP
  have hD : va_D (fun q : Nat => s.heap.size ≤ q) (((ao, zoc tt (zout Int32.toInt64 vo e)) :: wL tt a b d wd fa od hd qc qs bc bs tl rl H q' w' fr' tr g' re' fi' ro' im' r pk cz lh lp se md ff) ++ wM tt c now before chg bb.2 row comes layer rounds value place places made lq left gone) := hD
  refine lv_istore (lv' := [(6, .int bb.1), (5, .int bb.2), (0, .ref sb), (1, .ref (a 0)), (2, .ref (c 0)), (3, .ref ao), (4, .int iI)]) hx hb dL_law_1470 hl (by decide) rfl (fun ls hl => ?_)
  refine lv_aload_n hx hb dL_law_1472 rfl (lv_at hl 4 rfl) ?_
  have hP := zP_perm (List.perm_append_comm (l₁ := (ao, zoc tt (zout Int32.toInt64 vo e)) :: wL tt a b d wd fa od hd qc qs bc bs tl rl H q' w' fr' tr g' re' fi' ro' im' r pk cz lh lp se md ff) (l₂ := wM tt c now before chg bb.2 row comes layer rounds value place places made lq left gone)) hP
  have hD := zD_perm (List.perm_append_comm (l₁ := (ao, zoc tt (zout Int32.toInt64 vo e)) :: wL tt a b d wd fa od hd qc qs bc bs tl rl H q' w' fr' tr g' re' fi' ro' im' r pk cz lh lp se md ff) (l₂ := wM tt c now before chg bb.2 row comes layer rounds value place places made lq left gone)) hD
  refine z_callVi (wc := wM tt c now before chg bb.2 row comes layer rounds value place places made lq left gone) (wr := (ao, zoc tt (zout Int32.toInt64 vo e)) :: wL tt a b d wd fa od hd qc qs bc bs tl rl H q' w' fr' tr g' re' fi' ro' im' r pk cz lh lp se md ff) (As := []) (rest := []) (ci := 11) ⟨hx, hb, hml, hown, hts⟩ hK hN hP hD hS hA9 (nX12_thrown l G tt H0.size c now before chg bb.2 row comes layer rounds value place places made lq left gone bb.2 rfl) (cwV 0 hts gL_law_X12_thrown rfl rfl rfl (by decide +kernel) ⟨Nat.le_of_ble_eq_true rfl, Nat.le_of_ble_eq_true rfl⟩) rfl rfl rfl hl.1 rfl (Nat.le_of_ble_eq_true rfl) dL_law_1473 ⟨hc1, hs1⟩ (fun rr u H0 locs hw hP hD hS => ?_)
  replace hw := hw.symm; subst hw
  have hP : va_P G vwCl (((ao, zoc tt (zout Int32.toInt64 vo e)) :: wL tt a b d wd fa od hd qc qs bc bs tl rl H q' w' fr' tr g' re' fi' ro' im' r pk cz lh lp se md ff) ++ wM tt c now before chg bb.2 row comes layer rounds value place places made lq left gone) H0 := hP
  have hD : va_D (fun q : Nat => s.heap.size ≤ q) (((ao, zoc tt (zout Int32.toInt64 vo e)) :: wL tt a b d wd fa od hd qc qs bc bs tl rl H q' w' fr' tr g' re' fi' ro' im' r pk cz lh lp se md ff) ++ wM tt c now before chg bb.2 row comes layer rounds value place places made lq left gone) := hD
  refine lv_iload hx hb dL_law_1476 (lv_at hl 1 rfl) ?_
  refine lv_icmp_eq (tgt := 1483) hx hb dL_law_1478 (by decide) (fun _ => ?_) (fun h9 => absurd rfl h9)
  refine lv_iload hx hb dL_law_1483 (lv_at hl 1 rfl) ?_
  rcases hA with ⟨k9, hk9, ek, rfl⟩ | ⟨v9, ev, rfl⟩
  · refine lv_if_ne (tgt := 1500) hx hb dL_law_1485 (by decide) (fun _ => ?_) (fun h9 => absurd h9 (fun h => zcd_ne k9 h))
    refine lv_goto (tgt := 2784) hx hb dL_law_1500 (by decide) ?_
    refine z_widen (k := ce + 4) (n := sl + 24) (by omega) (by omega) ?_
    exact kk H0 locs ls ⟨wd, fa, od, hd, qc, qs, bc, bs, tl, rl, H, q', w', fr', tr, g', re', fi', ro', im', r, pk, cz, lh, lp, se, md, ff, now, before, chg, _, row, comes, layer, rounds, value, place, places, made, lq, left, gone, (zout Int32.toInt64 vo e), hI', hP, hD⟩ hS (lv_sub hl [2, 3, 4, 5, 6] rfl)
  · refine lv_if_ne (tgt := 1500) hx hb dL_law_1485 (by decide) (fun h9 => absurd rfl h9) (fun _ => ?_)
    refine lv_aload_n hx hb dL_law_1488 rfl (lv_at hl 5 rfl) ?_
    refine lv_iconst (v := (0 : Int32)) hx hb dL_law_1489 (by decide) ?_
    refine va_lald hx hb hK hP 0 1 rfl rfl (inB_vp (by decide)) dL_law_1490 ?_
    refine lv_iload hx hb dL_law_1491 (lv_at hl 0 rfl) ?_
    refine lv_i2l hx hb dL_law_1493 rfl ?_
    refine W.lcmp hx hb dL_law_1494 ?_
    refine lv_if_eq (tgt := 1500) hx hb dL_law_1495 (by decide) (fun _ => ?_) (fun h9 => absurd ((lg_cmp_eq _ _).mpr (by subst ev; exact (zout_at Int32.toInt64 vo v9))) h9)
    refine lv_goto (tgt := 2784) hx hb dL_law_1500 (by decide) ?_
    refine z_widen (k := ce + 4) (n := sl + 24) (by omega) (by omega) ?_
    exact kk H0 locs ls ⟨wd, fa, od, hd, qc, qs, bc, bs, tl, rl, H, q', w', fr', tr, g', re', fi', ro', im', r, pk, cz, lh, lp, se, md, ff, now, before, chg, _, row, comes, layer, rounds, value, place, places, made, lq, left, gone, (zout Int32.toInt64 vo e), hI', hP, hD⟩ hS (lv_sub hl [2, 3, 4, 5, 6] rfl)

set_option maxHeartbeats 4000000 in
set_option maxRecDepth 100000 in
theorem zarm_firstFrom (K : Nat) (hK9 : 1000000 < K) {p : Program} {l : Launch} {e0 : Env} {s : State} {m : MethodId} {below : List Frame} {meth : Method} {cd : Code} {sb L : Nat} {xs : Nat → Int32} {G : va_G} {tt : Nat → ClassId} {sa : Nat → Nat} (C : zCtx p l s m meth cd sb L xs G tt sa) (a : Nat → Nat) (b : Nat → Nat → Nat) (d : Nat → Nat → Nat → Nat) (c : Nat → Nat) (ao : Nat) {i : Nat} {iI : Int32} (hi : i + 7 ≤ L) (hiI : iI = nI i) {ce sl : Nat} (hce : ce ≤ 600000) (hsl : sl ≤ 7290000) {H0 : Heap} {locs : List Loc} (hw : zWorld G tt a b d c ao (fun q : Nat => s.heap.size ≤ q) H0) (hS : va_S (fun q : Nat => s.heap.size ≤ q) s.heap H0 locs) {ls : Array Slot} (hl : lv_has ls 9 [(0, .ref sb), (1, .ref (a 0)), (2, .ref (c 0)), (3, .ref ao), (4, .int iI)])
    (kk : ∀ (H1 : Heap) (locs1 : List Loc) (ls1 : Array Slot), zWorld G tt a b d c ao (fun q : Nat => s.heap.size ≤ q) H1 → va_S (fun q : Nat => s.heap.size ≤ q) s.heap H1 locs1 → lv_has ls1 9 [(0, .ref sb), (1, .ref (a 0)), (2, .ref (c 0)), (3, .ref ao), (4, .int iI)] → W p l e0 room_1 s m #[Value.ref sb] below meth cd H1 locs1 (ce + 4) (sl + 24) (lw_Z below #[Value.ref sb] s) (F0 m 2784 ls1 [])) :
    W p l e0 room_1 s m #[Value.ref sb] below meth cd H0 locs ce sl (lw_Z below #[Value.ref sb] s) (F0 m 1503 ls []) := by
  obtain ⟨wd, fa, od, hd, qc, qs, bc, bs, tl, rl, H, q, w, fr, tr, g, re, fi, ro, im, r, pk, cz, lh, lp, se, md, ff, now, before, chg, th, row, comes, layer, rounds, value, place, places, made, lq, left, gone, vo, hI, hP, hD⟩ := hw
  obtain ⟨hlt, hL, C0, hK, hN, hX, hNc⟩ := C
  obtain ⟨hx, hb, hr, hml, hown, hts0, hX9, hbl, hlocks, hgv⟩ := C0
  have hts : ∀ w ∈ wsL_law, w.before #[Value.ref sb] s = true := fun w h => hts0 w (zL_law w h)
  have hown : s.vm.findClass RL = some m.cls := hown
  have hA9 : ∀ q : Nat, s.heap.size ≤ q → (fun q : Nat => s.heap.size ≤ q) q := fun _ h => h
  have hbA : ¬ (fun q : Nat => s.heap.size ≤ q) sb := Nat.not_le.mpr hbl
  have hc0 : ce ≤ room_1.cells := by show ce ≤ 601024; omega
  have hs0 : sl ≤ room_1.slots := by show sl ≤ 7293034; omega
  have hc1 : ce + 3 ≤ room_1.cells := by show ce + 3 ≤ 601024; omega
  have hs1 : sl + 18 ≤ room_1.slots := by show sl + 18 ≤ 7293034; omega
  refine lv_aload_n hx hb dL_law_1503 rfl (lv_at hl 1 rfl) ?_
  refine lv_aload_n hx hb dL_law_1504 rfl (lv_at hl 0 rfl) ?_
  refine lv_iload hx hb dL_law_1505 (lv_at hl 4 rfl) ?_
  refine lv_iconst (v := (1 : Int32)) hx hb dL_law_1507 (by decide) ?_
  refine lv_iadd hx hb dL_law_1508 ?_
  refine va_sld hx hb hX9 hbl hbA hS (zin_L hi hL hiI 1 (by decide) (1 : Int32) rfl) dL_law_1509 ?_
  refine lv_topi (fun x1 ex1 => ?_)
  refine lv_aload_n hx hb dL_law_1510 rfl (lv_at hl 0 rfl) ?_
  refine lv_iload hx hb dL_law_1511 (lv_at hl 4 rfl) ?_
  refine lv_iconst (v := (2 : Int32)) hx hb dL_law_1513 (by decide) ?_
  refine lv_iadd hx hb dL_law_1514 ?_
  refine va_sld hx hb hX9 hbl hbA hS (zin_L hi hL hiI 2 (by decide) (2 : Int32) rfl) dL_law_1515 ?_
  refine lv_topi (fun x2 ex2 => ?_)
  refine lv_aload_n hx hb dL_law_1516 rfl (lv_at hl 0 rfl) ?_
  refine lv_iload hx hb dL_law_1517 (lv_at hl 4 rfl) ?_
  refine lv_iconst (v := (3 : Int32)) hx hb dL_law_1519 (by decide) ?_
  refine lv_iadd hx hb dL_law_1520 ?_
  refine va_sld hx hb hX9 hbl hbA hS (zin_L hi hL hiI 3 (by decide) (3 : Int32) rfl) dL_law_1521 ?_
  refine lv_topi (fun x3 ex3 => ?_)
  refine lv_aload_n hx hb dL_law_1522 rfl (lv_at hl 0 rfl) ?_
  refine lv_iload hx hb dL_law_1523 (lv_at hl 4 rfl) ?_
  refine lv_iconst (v := (4 : Int32)) hx hb dL_law_1525 (by decide) ?_
  refine lv_iadd hx hb dL_law_1526 ?_
  refine va_sld hx hb hX9 hbl hbA hS (zin_L hi hL hiI 4 (by decide) (4 : Int32) rfl) dL_law_1527 ?_
  refine lv_topi (fun x4 ex4 => ?_)
  refine lv_aload_n hx hb dL_law_1528 rfl (lv_at hl 3 rfl) ?_
  obtain ⟨e, bb, q', w', fr', g', re', fi', ro', im', e1, e2, hA, hI'⟩ := zI_firstFrom K hK9 hI q fr x1 x2 x3 x4 th
  unfold zapg at e1
  refine z_callW (wc := (ao, zoc tt vo) :: wL tt a b d wd fa od hd qc qs bc bs tl rl H q w fr tr g re fi ro im r pk cz lh lp se md ff) (wr := wM tt c now before chg th row comes layer rounds value place places made lq left gone) (As := [.ref (a 0), .int x1, .int x2, .int x3, .int x4, .ref ao]) (rest := []) ⟨hx, hb, hml, hown, hts⟩ hK hN hX hNc hP hD hS hA9 (mL_firstFrom l G tt sa hlt H0.size K a b d wd fa od hd qc qs bc bs tl rl H q w fr tr g re fi ro im r pk cz lh lp se md ff x1 x2 x3 x4 ao vo _ e1 bb hA) (vx_cwSW 6 hts gL_law_L_firstFrom rfl rfl rfl (by decide +kernel) ⟨Nat.le_of_ble_eq_true rfl, Nat.le_of_ble_eq_true rfl⟩) rfl hl.1 rfl (Nat.le_of_ble_eq_true rfl) dL_law_1529 ⟨hc1, hs1⟩ (fun rr u H0 locs hw hP hD hS => ?_)
  obtain ⟨hw1, hw2⟩ := hw
  replace hw1 := hw1.symm; subst hw1
  replace hw2 := hw2.symm; subst hw2
  have hP : va_P G vwCl (wM tt c now before chg th row comes layer rounds value place places made lq left gone ++ ((ao, zoc tt (zout Int32.toInt64 vo e)) :: wL tt a b d wd fa od hd qc qs bc bs tl rl H q' w' fr' tr g' re' fi' ro' im' r pk cz lh lp se md ff)) H0 := hP
  have hD : va_D (fun q : Nat => s.heap.size ≤ q) (wM tt c now before chg th row comes layer rounds value place places made lq left gone ++ ((ao, zoc tt (zout Int32.toInt64 vo e)) :: wL tt a b d wd fa od hd qc qs bc bs tl rl H q' w' fr' tr g' re' fi' ro' im' r pk cz lh lp se md ff)) := hD
  refine lv_istore (lv' := [(5, .int bb.2), (0, .ref sb), (1, .ref (a 0)), (2, .ref (c 0)), (3, .ref ao), (4, .int iI)]) hx hb dL_law_1532 hl (by decide) rfl (fun ls hl => ?_)
  refine lv_aload_n hx hb dL_law_1534 rfl (lv_at hl 3 rfl) ?_
  refine lv_aload_n hx hb dL_law_1535 rfl (lv_at hl 1 rfl) ?_
  refine lv_iload hx hb dL_law_1536 (lv_at hl 5 rfl) ?_
  refine lv_iconst (v := (1 : Int32)) hx hb dL_law_1538 (by decide) ?_
  refine lv_iadd hx hb dL_law_1539 ?_
  refine va_sld hx hb hX9 hbl hbA hS (zin_L hi hL hiI 1 (by decide) (1 : Int32) rfl) dL_law_1540 ?_
  refine lv_topi (fun x5 ex5 => ?_)
  obtain rfl : x5 = x1 := ex5.trans ex1.symm
  refine lv_aload_n hx hb dL_law_1541 rfl (lv_at hl 1 rfl) ?_
  refine lv_iload hx hb dL_law_1542 (lv_at hl 5 rfl) ?_
  refine lv_iconst (v := (2 : Int32)) hx hb dL_law_1544 (by decide) ?_
  refine lv_iadd hx hb dL_law_1545 ?_
  refine va_sld hx hb hX9 hbl hbA hS (zin_L hi hL hiI 2 (by decide) (2 : Int32) rfl) dL_law_1546 ?_
  refine lv_topi (fun x6 ex6 => ?_)
  obtain rfl : x6 = x2 := ex6.trans ex2.symm
  refine lv_aload_n hx hb dL_law_1547 rfl (lv_at hl 1 rfl) ?_
  refine lv_iload hx hb dL_law_1548 (lv_at hl 5 rfl) ?_
  refine lv_iconst (v := (3 : Int32)) hx hb dL_law_1550 (by decide) ?_
  refine lv_iadd hx hb dL_law_1551 ?_
  refine va_sld hx hb hX9 hbl hbA hS (zin_L hi hL hiI 3 (by decide) (3 : Int32) rfl) dL_law_1552 ?_
  refine lv_topi (fun x7 ex7 => ?_)
  obtain rfl : x7 = x3 := ex7.trans ex3.symm
  refine lv_aload_n hx hb dL_law_1553 rfl (lv_at hl 1 rfl) ?_
  refine lv_iload hx hb dL_law_1554 (lv_at hl 5 rfl) ?_
  refine lv_iconst (v := (4 : Int32)) hx hb dL_law_1556 (by decide) ?_
  refine lv_iadd hx hb dL_law_1557 ?_
  refine va_sld hx hb hX9 hbl hbA hS (zin_L hi hL hiI 4 (by decide) (4 : Int32) rfl) dL_law_1558 ?_
  refine lv_topi (fun x8 ex8 => ?_)
  obtain rfl : x8 = x4 := ex8.trans ex4.symm
  refine z_callVi (wc := wM tt c now before chg th row comes layer rounds value place places made lq left gone) (wr := (ao, zoc tt (zout Int32.toInt64 vo e)) :: wL tt a b d wd fa od hd qc qs bc bs tl rl H q' w' fr' tr g' re' fi' ro' im' r pk cz lh lp se md ff) (As := [.int x5, .int x6, .int x7, .int x8]) (rest := []) (ci := 11) ⟨hx, hb, hml, hown, hts⟩ hK hN hP hD hS hA9 (nX12_firstFrom l G tt H0.size K c now before chg th row comes layer rounds value place places made lq left gone x5 x6 x7 x8 _ e2) (cwV 4 hts gL_law_X12_firstFrom rfl rfl rfl (by decide +kernel) ⟨Nat.le_of_ble_eq_true rfl, Nat.le_of_ble_eq_true rfl⟩) rfl rfl rfl hl.1 rfl (Nat.le_of_ble_eq_true rfl) dL_law_1559 ⟨hc1, hs1⟩ (fun rr u H0 locs hw hP hD hS => ?_)
  obtain ⟨hw1, hw2⟩ := hw
  replace hw1 := hw1.symm; subst hw1
  replace hw2 := hw2.symm; subst hw2
  have hP : va_P G vwCl (((ao, zoc tt (zout Int32.toInt64 vo e)) :: wL tt a b d wd fa od hd qc qs bc bs tl rl H q' w' fr' tr g' re' fi' ro' im' r pk cz lh lp se md ff) ++ wM tt c now before chg bb.2 row comes layer rounds value place places made lq left gone) H0 := hP
  have hD : va_D (fun q : Nat => s.heap.size ≤ q) (((ao, zoc tt (zout Int32.toInt64 vo e)) :: wL tt a b d wd fa od hd qc qs bc bs tl rl H q' w' fr' tr g' re' fi' ro' im' r pk cz lh lp se md ff) ++ wM tt c now before chg bb.2 row comes layer rounds value place places made lq left gone) := hD
  refine lv_istore (lv' := [(6, .int bb.1), (5, .int bb.2), (0, .ref sb), (1, .ref (a 0)), (2, .ref (c 0)), (3, .ref ao), (4, .int iI)]) hx hb dL_law_1562 hl (by decide) rfl (fun ls hl => ?_)
  refine lv_aload_n hx hb dL_law_1564 rfl (lv_at hl 4 rfl) ?_
  have hP := zP_perm (List.perm_append_comm (l₁ := (ao, zoc tt (zout Int32.toInt64 vo e)) :: wL tt a b d wd fa od hd qc qs bc bs tl rl H q' w' fr' tr g' re' fi' ro' im' r pk cz lh lp se md ff) (l₂ := wM tt c now before chg bb.2 row comes layer rounds value place places made lq left gone)) hP
  have hD := zD_perm (List.perm_append_comm (l₁ := (ao, zoc tt (zout Int32.toInt64 vo e)) :: wL tt a b d wd fa od hd qc qs bc bs tl rl H q' w' fr' tr g' re' fi' ro' im' r pk cz lh lp se md ff) (l₂ := wM tt c now before chg bb.2 row comes layer rounds value place places made lq left gone)) hD
  refine z_callVi (wc := wM tt c now before chg bb.2 row comes layer rounds value place places made lq left gone) (wr := (ao, zoc tt (zout Int32.toInt64 vo e)) :: wL tt a b d wd fa od hd qc qs bc bs tl rl H q' w' fr' tr g' re' fi' ro' im' r pk cz lh lp se md ff) (As := []) (rest := []) (ci := 11) ⟨hx, hb, hml, hown, hts⟩ hK hN hP hD hS hA9 (nX12_thrown l G tt H0.size c now before chg bb.2 row comes layer rounds value place places made lq left gone bb.2 rfl) (cwV 0 hts gL_law_X12_thrown rfl rfl rfl (by decide +kernel) ⟨Nat.le_of_ble_eq_true rfl, Nat.le_of_ble_eq_true rfl⟩) rfl rfl rfl hl.1 rfl (Nat.le_of_ble_eq_true rfl) dL_law_1565 ⟨hc1, hs1⟩ (fun rr u H0 locs hw hP hD hS => ?_)
  replace hw := hw.symm; subst hw
  have hP : va_P G vwCl (((ao, zoc tt (zout Int32.toInt64 vo e)) :: wL tt a b d wd fa od hd qc qs bc bs tl rl H q' w' fr' tr g' re' fi' ro' im' r pk cz lh lp se md ff) ++ wM tt c now before chg bb.2 row comes layer rounds value place places made lq left gone) H0 := hP
  have hD : va_D (fun q : Nat => s.heap.size ≤ q) (((ao, zoc tt (zout Int32.toInt64 vo e)) :: wL tt a b d wd fa od hd qc qs bc bs tl rl H q' w' fr' tr g' re' fi' ro' im' r pk cz lh lp se md ff) ++ wM tt c now before chg bb.2 row comes layer rounds value place places made lq left gone) := hD
  refine lv_iload hx hb dL_law_1568 (lv_at hl 1 rfl) ?_
  refine lv_icmp_eq (tgt := 1575) hx hb dL_law_1570 (by decide) (fun _ => ?_) (fun h9 => absurd rfl h9)
  refine lv_iload hx hb dL_law_1575 (lv_at hl 1 rfl) ?_
  rcases hA with ⟨k9, hk9, ek, rfl⟩ | ⟨v9, ev, rfl⟩
  · refine lv_if_ne (tgt := 1592) hx hb dL_law_1577 (by decide) (fun _ => ?_) (fun h9 => absurd h9 (fun h => zcd_ne k9 h))
    refine lv_goto (tgt := 2784) hx hb dL_law_1592 (by decide) ?_
    refine z_widen (k := ce + 4) (n := sl + 24) (by omega) (by omega) ?_
    exact kk H0 locs ls ⟨wd, fa, od, hd, qc, qs, bc, bs, tl, rl, H, q', w', fr', tr, g', re', fi', ro', im', r, pk, cz, lh, lp, se, md, ff, now, before, chg, _, row, comes, layer, rounds, value, place, places, made, lq, left, gone, (zout Int32.toInt64 vo e), hI', hP, hD⟩ hS (lv_sub hl [2, 3, 4, 5, 6] rfl)
  · refine lv_if_ne (tgt := 1592) hx hb dL_law_1577 (by decide) (fun h9 => absurd rfl h9) (fun _ => ?_)
    refine lv_aload_n hx hb dL_law_1580 rfl (lv_at hl 5 rfl) ?_
    refine lv_iconst (v := (0 : Int32)) hx hb dL_law_1581 (by decide) ?_
    refine va_lald hx hb hK hP 0 1 rfl rfl (inB_vp (by decide)) dL_law_1582 ?_
    refine lv_iload hx hb dL_law_1583 (lv_at hl 0 rfl) ?_
    refine lv_i2l hx hb dL_law_1585 rfl ?_
    refine W.lcmp hx hb dL_law_1586 ?_
    refine lv_if_eq (tgt := 1592) hx hb dL_law_1587 (by decide) (fun _ => ?_) (fun h9 => absurd ((lg_cmp_eq _ _).mpr (by subst ev; exact (zout_at Int32.toInt64 vo v9))) h9)
    refine lv_goto (tgt := 2784) hx hb dL_law_1592 (by decide) ?_
    refine z_widen (k := ce + 4) (n := sl + 24) (by omega) (by omega) ?_
    exact kk H0 locs ls ⟨wd, fa, od, hd, qc, qs, bc, bs, tl, rl, H, q', w', fr', tr, g', re', fi', ro', im', r, pk, cz, lh, lp, se, md, ff, now, before, chg, _, row, comes, layer, rounds, value, place, places, made, lq, left, gone, (zout Int32.toInt64 vo e), hI', hP, hD⟩ hS (lv_sub hl [2, 3, 4, 5, 6] rfl)

set_option maxHeartbeats 4000000 in
set_option maxRecDepth 100000 in
theorem zarm_values (K : Nat) (hK9 : 1000000 < K) {p : Program} {l : Launch} {e0 : Env} {s : State} {m : MethodId} {below : List Frame} {meth : Method} {cd : Code} {sb L : Nat} {xs : Nat → Int32} {G : va_G} {tt : Nat → ClassId} {sa : Nat → Nat} (C : zCtx p l s m meth cd sb L xs G tt sa) (a : Nat → Nat) (b : Nat → Nat → Nat) (d : Nat → Nat → Nat → Nat) (c : Nat → Nat) (ao : Nat) {i : Nat} {iI : Int32} (hi : i + 7 ≤ L) (hiI : iI = nI i) {ce sl : Nat} (hce : ce ≤ 600000) (hsl : sl ≤ 7290000) {H0 : Heap} {locs : List Loc} (hw : zWorld G tt a b d c ao (fun q : Nat => s.heap.size ≤ q) H0) (hS : va_S (fun q : Nat => s.heap.size ≤ q) s.heap H0 locs) {ls : Array Slot} (hl : lv_has ls 9 [(0, .ref sb), (1, .ref (a 0)), (2, .ref (c 0)), (3, .ref ao), (4, .int iI)])
    (kk : ∀ (H1 : Heap) (locs1 : List Loc) (ls1 : Array Slot), zWorld G tt a b d c ao (fun q : Nat => s.heap.size ≤ q) H1 → va_S (fun q : Nat => s.heap.size ≤ q) s.heap H1 locs1 → lv_has ls1 9 [(0, .ref sb), (1, .ref (a 0)), (2, .ref (c 0)), (3, .ref ao), (4, .int iI)] → W p l e0 room_1 s m #[Value.ref sb] below meth cd H1 locs1 (ce + 4) (sl + 24) (lw_Z below #[Value.ref sb] s) (F0 m 2784 ls1 [])) :
    W p l e0 room_1 s m #[Value.ref sb] below meth cd H0 locs ce sl (lw_Z below #[Value.ref sb] s) (F0 m 1595 ls []) := by
  obtain ⟨wd, fa, od, hd, qc, qs, bc, bs, tl, rl, H, q, w, fr, tr, g, re, fi, ro, im, r, pk, cz, lh, lp, se, md, ff, now, before, chg, th, row, comes, layer, rounds, value, place, places, made, lq, left, gone, vo, hI, hP, hD⟩ := hw
  obtain ⟨hlt, hL, C0, hK, hN, hX, hNc⟩ := C
  obtain ⟨hx, hb, hr, hml, hown, hts0, hX9, hbl, hlocks, hgv⟩ := C0
  have hts : ∀ w ∈ wsL_law, w.before #[Value.ref sb] s = true := fun w h => hts0 w (zL_law w h)
  have hown : s.vm.findClass RL = some m.cls := hown
  have hA9 : ∀ q : Nat, s.heap.size ≤ q → (fun q : Nat => s.heap.size ≤ q) q := fun _ h => h
  have hbA : ¬ (fun q : Nat => s.heap.size ≤ q) sb := Nat.not_le.mpr hbl
  have hc0 : ce ≤ room_1.cells := by show ce ≤ 601024; omega
  have hs0 : sl ≤ room_1.slots := by show sl ≤ 7293034; omega
  have hc1 : ce + 2 ≤ room_1.cells := by show ce + 2 ≤ 601024; omega
  have hs1 : sl + 12 ≤ room_1.slots := by show sl + 12 ≤ 7293034; omega
  refine lv_aload_n hx hb dL_law_1595 rfl (lv_at hl 1 rfl) ?_
  refine lv_aload_n hx hb dL_law_1596 rfl (lv_at hl 0 rfl) ?_
  refine lv_iload hx hb dL_law_1597 (lv_at hl 4 rfl) ?_
  refine lv_iconst (v := (1 : Int32)) hx hb dL_law_1599 (by decide) ?_
  refine lv_iadd hx hb dL_law_1600 ?_
  refine va_sld hx hb hX9 hbl hbA hS (zin_L hi hL hiI 1 (by decide) (1 : Int32) rfl) dL_law_1601 ?_
  refine lv_topi (fun x1 ex1 => ?_)
  refine lv_aload_n hx hb dL_law_1602 rfl (lv_at hl 0 rfl) ?_
  refine lv_iload hx hb dL_law_1603 (lv_at hl 4 rfl) ?_
  refine lv_iconst (v := (2 : Int32)) hx hb dL_law_1605 (by decide) ?_
  refine lv_iadd hx hb dL_law_1606 ?_
  refine va_sld hx hb hX9 hbl hbA hS (zin_L hi hL hiI 2 (by decide) (2 : Int32) rfl) dL_law_1607 ?_
  refine lv_topi (fun x2 ex2 => ?_)
  refine lv_aload_n hx hb dL_law_1608 rfl (lv_at hl 3 rfl) ?_
  obtain ⟨e, bb, q', w', fr', g', re', fi', ro', im', e1, e2, hA, hI'⟩ := zI_values K hK9 hI q fr x1 x2 th
  unfold zapg at e1
  refine z_callW (wc := (ao, zoc tt vo) :: wL tt a b d wd fa od hd qc qs bc bs tl rl H q w fr tr g re fi ro im r pk cz lh lp se md ff) (wr := wM tt c now before chg th row comes layer rounds value place places made lq left gone) (As := [.ref (a 0), .int x1, .int x2, .ref ao]) (rest := []) ⟨hx, hb, hml, hown, hts⟩ hK hN hX hNc hP hD hS hA9 (mL_values l G tt sa hlt H0.size K a b d wd fa od hd qc qs bc bs tl rl H q w fr tr g re fi ro im r pk cz lh lp se md ff x1 x2 ao vo _ e1 bb hA) (vx_cwSW 4 hts gL_law_L_values rfl rfl rfl (by decide +kernel) ⟨Nat.le_of_ble_eq_true rfl, Nat.le_of_ble_eq_true rfl⟩) rfl hl.1 rfl (Nat.le_of_ble_eq_true rfl) dL_law_1609 ⟨hc1, hs1⟩ (fun rr u H0 locs hw hP hD hS => ?_)
  obtain ⟨hw1, hw2⟩ := hw
  replace hw1 := hw1.symm; subst hw1
  replace hw2 := hw2.symm; subst hw2
  have hP : va_P G vwCl (wM tt c now before chg th row comes layer rounds value place places made lq left gone ++ ((ao, zoc tt (zout Int32.toInt64 vo e)) :: wL tt a b d wd fa od hd qc qs bc bs tl rl H q' w' fr' tr g' re' fi' ro' im' r pk cz lh lp se md ff)) H0 := hP
  have hD : va_D (fun q : Nat => s.heap.size ≤ q) (wM tt c now before chg th row comes layer rounds value place places made lq left gone ++ ((ao, zoc tt (zout Int32.toInt64 vo e)) :: wL tt a b d wd fa od hd qc qs bc bs tl rl H q' w' fr' tr g' re' fi' ro' im' r pk cz lh lp se md ff)) := hD
  refine lv_istore (lv' := [(5, .int bb.2), (0, .ref sb), (1, .ref (a 0)), (2, .ref (c 0)), (3, .ref ao), (4, .int iI)]) hx hb dL_law_1612 hl (by decide) rfl (fun ls hl => ?_)
  refine lv_aload_n hx hb dL_law_1614 rfl (lv_at hl 3 rfl) ?_
  refine lv_aload_n hx hb dL_law_1615 rfl (lv_at hl 1 rfl) ?_
  refine lv_iload hx hb dL_law_1616 (lv_at hl 5 rfl) ?_
  refine lv_iconst (v := (1 : Int32)) hx hb dL_law_1618 (by decide) ?_
  refine lv_iadd hx hb dL_law_1619 ?_
  refine va_sld hx hb hX9 hbl hbA hS (zin_L hi hL hiI 1 (by decide) (1 : Int32) rfl) dL_law_1620 ?_
  refine lv_topi (fun x3 ex3 => ?_)
  obtain rfl : x3 = x1 := ex3.trans ex1.symm
  refine lv_aload_n hx hb dL_law_1621 rfl (lv_at hl 1 rfl) ?_
  refine lv_iload hx hb dL_law_1622 (lv_at hl 5 rfl) ?_
  refine lv_iconst (v := (2 : Int32)) hx hb dL_law_1624 (by decide) ?_
  refine lv_iadd hx hb dL_law_1625 ?_
  refine va_sld hx hb hX9 hbl hbA hS (zin_L hi hL hiI 2 (by decide) (2 : Int32) rfl) dL_law_1626 ?_
  refine lv_topi (fun x4 ex4 => ?_)
  obtain rfl : x4 = x2 := ex4.trans ex2.symm
  refine z_callVi (wc := wM tt c now before chg th row comes layer rounds value place places made lq left gone) (wr := (ao, zoc tt (zout Int32.toInt64 vo e)) :: wL tt a b d wd fa od hd qc qs bc bs tl rl H q' w' fr' tr g' re' fi' ro' im' r pk cz lh lp se md ff) (As := [.int x3, .int x4]) (rest := []) (ci := 11) ⟨hx, hb, hml, hown, hts⟩ hK hN hP hD hS hA9 (nX12_values l G tt H0.size K c now before chg th row comes layer rounds value place places made lq left gone x3 x4 _ e2) (cwV 2 hts gL_law_X12_values rfl rfl rfl (by decide +kernel) ⟨Nat.le_of_ble_eq_true rfl, Nat.le_of_ble_eq_true rfl⟩) rfl rfl rfl hl.1 rfl (Nat.le_of_ble_eq_true rfl) dL_law_1627 ⟨hc1, hs1⟩ (fun rr u H0 locs hw hP hD hS => ?_)
  obtain ⟨hw1, hw2⟩ := hw
  replace hw1 := hw1.symm; subst hw1
  replace hw2 := hw2.symm; subst hw2
  have hP : va_P G vwCl (((ao, zoc tt (zout Int32.toInt64 vo e)) :: wL tt a b d wd fa od hd qc qs bc bs tl rl H q' w' fr' tr g' re' fi' ro' im' r pk cz lh lp se md ff) ++ wM tt c now before chg bb.2 row comes layer rounds value place places made lq left gone) H0 := hP
  have hD : va_D (fun q : Nat => s.heap.size ≤ q) (((ao, zoc tt (zout Int32.toInt64 vo e)) :: wL tt a b d wd fa od hd qc qs bc bs tl rl H q' w' fr' tr g' re' fi' ro' im' r pk cz lh lp se md ff) ++ wM tt c now before chg bb.2 row comes layer rounds value place places made lq left gone) := hD
  refine lv_istore (lv' := [(6, .int bb.1), (5, .int bb.2), (0, .ref sb), (1, .ref (a 0)), (2, .ref (c 0)), (3, .ref ao), (4, .int iI)]) hx hb dL_law_1630 hl (by decide) rfl (fun ls hl => ?_)
  refine lv_aload_n hx hb dL_law_1632 rfl (lv_at hl 4 rfl) ?_
  have hP := zP_perm (List.perm_append_comm (l₁ := (ao, zoc tt (zout Int32.toInt64 vo e)) :: wL tt a b d wd fa od hd qc qs bc bs tl rl H q' w' fr' tr g' re' fi' ro' im' r pk cz lh lp se md ff) (l₂ := wM tt c now before chg bb.2 row comes layer rounds value place places made lq left gone)) hP
  have hD := zD_perm (List.perm_append_comm (l₁ := (ao, zoc tt (zout Int32.toInt64 vo e)) :: wL tt a b d wd fa od hd qc qs bc bs tl rl H q' w' fr' tr g' re' fi' ro' im' r pk cz lh lp se md ff) (l₂ := wM tt c now before chg bb.2 row comes layer rounds value place places made lq left gone)) hD
  refine z_callVi (wc := wM tt c now before chg bb.2 row comes layer rounds value place places made lq left gone) (wr := (ao, zoc tt (zout Int32.toInt64 vo e)) :: wL tt a b d wd fa od hd qc qs bc bs tl rl H q' w' fr' tr g' re' fi' ro' im' r pk cz lh lp se md ff) (As := []) (rest := []) (ci := 11) ⟨hx, hb, hml, hown, hts⟩ hK hN hP hD hS hA9 (nX12_thrown l G tt H0.size c now before chg bb.2 row comes layer rounds value place places made lq left gone bb.2 rfl) (cwV 0 hts gL_law_X12_thrown rfl rfl rfl (by decide +kernel) ⟨Nat.le_of_ble_eq_true rfl, Nat.le_of_ble_eq_true rfl⟩) rfl rfl rfl hl.1 rfl (Nat.le_of_ble_eq_true rfl) dL_law_1633 ⟨hc1, hs1⟩ (fun rr u H0 locs hw hP hD hS => ?_)
  replace hw := hw.symm; subst hw
  have hP : va_P G vwCl (((ao, zoc tt (zout Int32.toInt64 vo e)) :: wL tt a b d wd fa od hd qc qs bc bs tl rl H q' w' fr' tr g' re' fi' ro' im' r pk cz lh lp se md ff) ++ wM tt c now before chg bb.2 row comes layer rounds value place places made lq left gone) H0 := hP
  have hD : va_D (fun q : Nat => s.heap.size ≤ q) (((ao, zoc tt (zout Int32.toInt64 vo e)) :: wL tt a b d wd fa od hd qc qs bc bs tl rl H q' w' fr' tr g' re' fi' ro' im' r pk cz lh lp se md ff) ++ wM tt c now before chg bb.2 row comes layer rounds value place places made lq left gone) := hD
  refine lv_iload hx hb dL_law_1636 (lv_at hl 1 rfl) ?_
  refine lv_icmp_eq (tgt := 1643) hx hb dL_law_1638 (by decide) (fun _ => ?_) (fun h9 => absurd rfl h9)
  refine lv_iload hx hb dL_law_1643 (lv_at hl 1 rfl) ?_
  rcases hA with ⟨k9, hk9, ek, rfl⟩ | ⟨v9, ev, rfl⟩
  · refine lv_if_ne (tgt := 1660) hx hb dL_law_1645 (by decide) (fun _ => ?_) (fun h9 => absurd h9 (fun h => zcd_ne k9 h))
    refine lv_goto (tgt := 2784) hx hb dL_law_1660 (by decide) ?_
    refine z_widen (k := ce + 4) (n := sl + 24) (by omega) (by omega) ?_
    exact kk H0 locs ls ⟨wd, fa, od, hd, qc, qs, bc, bs, tl, rl, H, q', w', fr', tr, g', re', fi', ro', im', r, pk, cz, lh, lp, se, md, ff, now, before, chg, _, row, comes, layer, rounds, value, place, places, made, lq, left, gone, (zout Int32.toInt64 vo e), hI', hP, hD⟩ hS (lv_sub hl [2, 3, 4, 5, 6] rfl)
  · refine lv_if_ne (tgt := 1660) hx hb dL_law_1645 (by decide) (fun h9 => absurd rfl h9) (fun _ => ?_)
    refine lv_aload_n hx hb dL_law_1648 rfl (lv_at hl 5 rfl) ?_
    refine lv_iconst (v := (0 : Int32)) hx hb dL_law_1649 (by decide) ?_
    refine va_lald hx hb hK hP 0 1 rfl rfl (inB_vp (by decide)) dL_law_1650 ?_
    refine lv_iload hx hb dL_law_1651 (lv_at hl 0 rfl) ?_
    refine lv_i2l hx hb dL_law_1653 rfl ?_
    refine W.lcmp hx hb dL_law_1654 ?_
    refine lv_if_eq (tgt := 1660) hx hb dL_law_1655 (by decide) (fun _ => ?_) (fun h9 => absurd ((lg_cmp_eq _ _).mpr (by subst ev; exact (zout_at Int32.toInt64 vo v9))) h9)
    refine lv_goto (tgt := 2784) hx hb dL_law_1660 (by decide) ?_
    refine z_widen (k := ce + 4) (n := sl + 24) (by omega) (by omega) ?_
    exact kk H0 locs ls ⟨wd, fa, od, hd, qc, qs, bc, bs, tl, rl, H, q', w', fr', tr, g', re', fi', ro', im', r, pk, cz, lh, lp, se, md, ff, now, before, chg, _, row, comes, layer, rounds, value, place, places, made, lq, left, gone, (zout Int32.toInt64 vo e), hI', hP, hD⟩ hS (lv_sub hl [2, 3, 4, 5, 6] rfl)

set_option maxHeartbeats 4000000 in
set_option maxRecDepth 100000 in
theorem zarm_lower (K : Nat) (hK9 : 1000000 < K) {p : Program} {l : Launch} {e0 : Env} {s : State} {m : MethodId} {below : List Frame} {meth : Method} {cd : Code} {sb L : Nat} {xs : Nat → Int32} {G : va_G} {tt : Nat → ClassId} {sa : Nat → Nat} (C : zCtx p l s m meth cd sb L xs G tt sa) (a : Nat → Nat) (b : Nat → Nat → Nat) (d : Nat → Nat → Nat → Nat) (c : Nat → Nat) (ao : Nat) {i : Nat} {iI : Int32} (hi : i + 7 ≤ L) (hiI : iI = nI i) {ce sl : Nat} (hce : ce ≤ 600000) (hsl : sl ≤ 7290000) {H0 : Heap} {locs : List Loc} (hw : zWorld G tt a b d c ao (fun q : Nat => s.heap.size ≤ q) H0) (hS : va_S (fun q : Nat => s.heap.size ≤ q) s.heap H0 locs) {ls : Array Slot} (hl : lv_has ls 9 [(0, .ref sb), (1, .ref (a 0)), (2, .ref (c 0)), (3, .ref ao), (4, .int iI)])
    (kk : ∀ (H1 : Heap) (locs1 : List Loc) (ls1 : Array Slot), zWorld G tt a b d c ao (fun q : Nat => s.heap.size ≤ q) H1 → va_S (fun q : Nat => s.heap.size ≤ q) s.heap H1 locs1 → lv_has ls1 9 [(0, .ref sb), (1, .ref (a 0)), (2, .ref (c 0)), (3, .ref ao), (4, .int iI)] → W p l e0 room_1 s m #[Value.ref sb] below meth cd H1 locs1 (ce + 4) (sl + 24) (lw_Z below #[Value.ref sb] s) (F0 m 2784 ls1 [])) :
    W p l e0 room_1 s m #[Value.ref sb] below meth cd H0 locs ce sl (lw_Z below #[Value.ref sb] s) (F0 m 1663 ls []) := by
  obtain ⟨wd, fa, od, hd, qc, qs, bc, bs, tl, rl, H, q, w, fr, tr, g, re, fi, ro, im, r, pk, cz, lh, lp, se, md, ff, now, before, chg, th, row, comes, layer, rounds, value, place, places, made, lq, left, gone, vo, hI, hP, hD⟩ := hw
  obtain ⟨hlt, hL, C0, hK, hN, hX, hNc⟩ := C
  obtain ⟨hx, hb, hr, hml, hown, hts0, hX9, hbl, hlocks, hgv⟩ := C0
  have hts : ∀ w ∈ wsL_law, w.before #[Value.ref sb] s = true := fun w h => hts0 w (zL_law w h)
  have hown : s.vm.findClass RL = some m.cls := hown
  have hA9 : ∀ q : Nat, s.heap.size ≤ q → (fun q : Nat => s.heap.size ≤ q) q := fun _ h => h
  have hbA : ¬ (fun q : Nat => s.heap.size ≤ q) sb := Nat.not_le.mpr hbl
  have hc0 : ce ≤ room_1.cells := by show ce ≤ 601024; omega
  have hs0 : sl ≤ room_1.slots := by show sl ≤ 7293034; omega
  have hc1 : ce + 2 ≤ room_1.cells := by show ce + 2 ≤ 601024; omega
  have hs1 : sl + 12 ≤ room_1.slots := by show sl + 12 ≤ 7293034; omega
  refine lv_aload_n hx hb dL_law_1663 rfl (lv_at hl 1 rfl) ?_
  refine lv_aload_n hx hb dL_law_1664 rfl (lv_at hl 0 rfl) ?_
  refine lv_iload hx hb dL_law_1665 (lv_at hl 4 rfl) ?_
  refine lv_iconst (v := (1 : Int32)) hx hb dL_law_1667 (by decide) ?_
  refine lv_iadd hx hb dL_law_1668 ?_
  refine va_sld hx hb hX9 hbl hbA hS (zin_L hi hL hiI 1 (by decide) (1 : Int32) rfl) dL_law_1669 ?_
  refine lv_topi (fun x1 ex1 => ?_)
  refine lv_aload_n hx hb dL_law_1670 rfl (lv_at hl 0 rfl) ?_
  refine lv_iload hx hb dL_law_1671 (lv_at hl 4 rfl) ?_
  refine lv_iconst (v := (2 : Int32)) hx hb dL_law_1673 (by decide) ?_
  refine lv_iadd hx hb dL_law_1674 ?_
  refine va_sld hx hb hX9 hbl hbA hS (zin_L hi hL hiI 2 (by decide) (2 : Int32) rfl) dL_law_1675 ?_
  refine lv_topi (fun x2 ex2 => ?_)
  refine lv_aload_n hx hb dL_law_1676 rfl (lv_at hl 3 rfl) ?_
  obtain ⟨e, bb, q', w', fr', g', re', fi', ro', im', e1, e2, hA, hI'⟩ := zI_lower K hK9 hI q fr x1 x2 th
  unfold zapg at e1
  refine z_callW (wc := (ao, zoc tt vo) :: wL tt a b d wd fa od hd qc qs bc bs tl rl H q w fr tr g re fi ro im r pk cz lh lp se md ff) (wr := wM tt c now before chg th row comes layer rounds value place places made lq left gone) (As := [.ref (a 0), .int x1, .int x2, .ref ao]) (rest := []) ⟨hx, hb, hml, hown, hts⟩ hK hN hX hNc hP hD hS hA9 (mL_lower l G tt sa hlt H0.size K a b d wd fa od hd qc qs bc bs tl rl H q w fr tr g re fi ro im r pk cz lh lp se md ff x1 x2 ao vo _ e1 bb hA) (vx_cwSW 4 hts gL_law_L_lower rfl rfl rfl (by decide +kernel) ⟨Nat.le_of_ble_eq_true rfl, Nat.le_of_ble_eq_true rfl⟩) rfl hl.1 rfl (Nat.le_of_ble_eq_true rfl) dL_law_1677 ⟨hc1, hs1⟩ (fun rr u H0 locs hw hP hD hS => ?_)
  obtain ⟨hw1, hw2⟩ := hw
  replace hw1 := hw1.symm; subst hw1
  replace hw2 := hw2.symm; subst hw2
  have hP : va_P G vwCl (wM tt c now before chg th row comes layer rounds value place places made lq left gone ++ ((ao, zoc tt (zout Int32.toInt64 vo e)) :: wL tt a b d wd fa od hd qc qs bc bs tl rl H q' w' fr' tr g' re' fi' ro' im' r pk cz lh lp se md ff)) H0 := hP
  have hD : va_D (fun q : Nat => s.heap.size ≤ q) (wM tt c now before chg th row comes layer rounds value place places made lq left gone ++ ((ao, zoc tt (zout Int32.toInt64 vo e)) :: wL tt a b d wd fa od hd qc qs bc bs tl rl H q' w' fr' tr g' re' fi' ro' im' r pk cz lh lp se md ff)) := hD
  refine lv_istore (lv' := [(5, .int bb.2), (0, .ref sb), (1, .ref (a 0)), (2, .ref (c 0)), (3, .ref ao), (4, .int iI)]) hx hb dL_law_1680 hl (by decide) rfl (fun ls hl => ?_)
  refine lv_aload_n hx hb dL_law_1682 rfl (lv_at hl 3 rfl) ?_
  refine lv_aload_n hx hb dL_law_1683 rfl (lv_at hl 1 rfl) ?_
  refine lv_iload hx hb dL_law_1684 (lv_at hl 5 rfl) ?_
  refine lv_iconst (v := (1 : Int32)) hx hb dL_law_1686 (by decide) ?_
  refine lv_iadd hx hb dL_law_1687 ?_
  refine va_sld hx hb hX9 hbl hbA hS (zin_L hi hL hiI 1 (by decide) (1 : Int32) rfl) dL_law_1688 ?_
  refine lv_topi (fun x3 ex3 => ?_)
  obtain rfl : x3 = x1 := ex3.trans ex1.symm
  refine lv_aload_n hx hb dL_law_1689 rfl (lv_at hl 1 rfl) ?_
  refine lv_iload hx hb dL_law_1690 (lv_at hl 5 rfl) ?_
  refine lv_iconst (v := (2 : Int32)) hx hb dL_law_1692 (by decide) ?_
  refine lv_iadd hx hb dL_law_1693 ?_
  refine va_sld hx hb hX9 hbl hbA hS (zin_L hi hL hiI 2 (by decide) (2 : Int32) rfl) dL_law_1694 ?_
  refine lv_topi (fun x4 ex4 => ?_)
  obtain rfl : x4 = x2 := ex4.trans ex2.symm
  refine z_callVi (wc := wM tt c now before chg th row comes layer rounds value place places made lq left gone) (wr := (ao, zoc tt (zout Int32.toInt64 vo e)) :: wL tt a b d wd fa od hd qc qs bc bs tl rl H q' w' fr' tr g' re' fi' ro' im' r pk cz lh lp se md ff) (As := [.int x3, .int x4]) (rest := []) (ci := 11) ⟨hx, hb, hml, hown, hts⟩ hK hN hP hD hS hA9 (nX12_lower l G tt H0.size K c now before chg th row comes layer rounds value place places made lq left gone x3 x4 _ e2) (cwV 2 hts gL_law_X12_lower rfl rfl rfl (by decide +kernel) ⟨Nat.le_of_ble_eq_true rfl, Nat.le_of_ble_eq_true rfl⟩) rfl rfl rfl hl.1 rfl (Nat.le_of_ble_eq_true rfl) dL_law_1695 ⟨hc1, hs1⟩ (fun rr u H0 locs hw hP hD hS => ?_)
  obtain ⟨hw1, hw2⟩ := hw
  replace hw1 := hw1.symm; subst hw1
  replace hw2 := hw2.symm; subst hw2
  have hP : va_P G vwCl (((ao, zoc tt (zout Int32.toInt64 vo e)) :: wL tt a b d wd fa od hd qc qs bc bs tl rl H q' w' fr' tr g' re' fi' ro' im' r pk cz lh lp se md ff) ++ wM tt c now before chg bb.2 row comes layer rounds value place places made lq left gone) H0 := hP
  have hD : va_D (fun q : Nat => s.heap.size ≤ q) (((ao, zoc tt (zout Int32.toInt64 vo e)) :: wL tt a b d wd fa od hd qc qs bc bs tl rl H q' w' fr' tr g' re' fi' ro' im' r pk cz lh lp se md ff) ++ wM tt c now before chg bb.2 row comes layer rounds value place places made lq left gone) := hD
  refine lv_istore (lv' := [(6, .int bb.1), (5, .int bb.2), (0, .ref sb), (1, .ref (a 0)), (2, .ref (c 0)), (3, .ref ao), (4, .int iI)]) hx hb dL_law_1698 hl (by decide) rfl (fun ls hl => ?_)
  refine lv_aload_n hx hb dL_law_1700 rfl (lv_at hl 4 rfl) ?_
  have hP := zP_perm (List.perm_append_comm (l₁ := (ao, zoc tt (zout Int32.toInt64 vo e)) :: wL tt a b d wd fa od hd qc qs bc bs tl rl H q' w' fr' tr g' re' fi' ro' im' r pk cz lh lp se md ff) (l₂ := wM tt c now before chg bb.2 row comes layer rounds value place places made lq left gone)) hP
  have hD := zD_perm (List.perm_append_comm (l₁ := (ao, zoc tt (zout Int32.toInt64 vo e)) :: wL tt a b d wd fa od hd qc qs bc bs tl rl H q' w' fr' tr g' re' fi' ro' im' r pk cz lh lp se md ff) (l₂ := wM tt c now before chg bb.2 row comes layer rounds value place places made lq left gone)) hD
  refine z_callVi (wc := wM tt c now before chg bb.2 row comes layer rounds value place places made lq left gone) (wr := (ao, zoc tt (zout Int32.toInt64 vo e)) :: wL tt a b d wd fa od hd qc qs bc bs tl rl H q' w' fr' tr g' re' fi' ro' im' r pk cz lh lp se md ff) (As := []) (rest := []) (ci := 11) ⟨hx, hb, hml, hown, hts⟩ hK hN hP hD hS hA9 (nX12_thrown l G tt H0.size c now before chg bb.2 row comes layer rounds value place places made lq left gone bb.2 rfl) (cwV 0 hts gL_law_X12_thrown rfl rfl rfl (by decide +kernel) ⟨Nat.le_of_ble_eq_true rfl, Nat.le_of_ble_eq_true rfl⟩) rfl rfl rfl hl.1 rfl (Nat.le_of_ble_eq_true rfl) dL_law_1701 ⟨hc1, hs1⟩ (fun rr u H0 locs hw hP hD hS => ?_)
  replace hw := hw.symm; subst hw
  have hP : va_P G vwCl (((ao, zoc tt (zout Int32.toInt64 vo e)) :: wL tt a b d wd fa od hd qc qs bc bs tl rl H q' w' fr' tr g' re' fi' ro' im' r pk cz lh lp se md ff) ++ wM tt c now before chg bb.2 row comes layer rounds value place places made lq left gone) H0 := hP
  have hD : va_D (fun q : Nat => s.heap.size ≤ q) (((ao, zoc tt (zout Int32.toInt64 vo e)) :: wL tt a b d wd fa od hd qc qs bc bs tl rl H q' w' fr' tr g' re' fi' ro' im' r pk cz lh lp se md ff) ++ wM tt c now before chg bb.2 row comes layer rounds value place places made lq left gone) := hD
  refine lv_iload hx hb dL_law_1704 (lv_at hl 1 rfl) ?_
  refine lv_icmp_eq (tgt := 1711) hx hb dL_law_1706 (by decide) (fun _ => ?_) (fun h9 => absurd rfl h9)
  refine lv_iload hx hb dL_law_1711 (lv_at hl 1 rfl) ?_
  rcases hA with ⟨k9, hk9, ek, rfl⟩ | ⟨v9, ev, rfl⟩
  · refine lv_if_ne (tgt := 1728) hx hb dL_law_1713 (by decide) (fun _ => ?_) (fun h9 => absurd h9 (fun h => zcd_ne k9 h))
    refine lv_goto (tgt := 2784) hx hb dL_law_1728 (by decide) ?_
    refine z_widen (k := ce + 4) (n := sl + 24) (by omega) (by omega) ?_
    exact kk H0 locs ls ⟨wd, fa, od, hd, qc, qs, bc, bs, tl, rl, H, q', w', fr', tr, g', re', fi', ro', im', r, pk, cz, lh, lp, se, md, ff, now, before, chg, _, row, comes, layer, rounds, value, place, places, made, lq, left, gone, (zout Int32.toInt64 vo e), hI', hP, hD⟩ hS (lv_sub hl [2, 3, 4, 5, 6] rfl)
  · refine lv_if_ne (tgt := 1728) hx hb dL_law_1713 (by decide) (fun h9 => absurd rfl h9) (fun _ => ?_)
    refine lv_aload_n hx hb dL_law_1716 rfl (lv_at hl 5 rfl) ?_
    refine lv_iconst (v := (0 : Int32)) hx hb dL_law_1717 (by decide) ?_
    refine va_lald hx hb hK hP 0 1 rfl rfl (inB_vp (by decide)) dL_law_1718 ?_
    refine lv_iload hx hb dL_law_1719 (lv_at hl 0 rfl) ?_
    refine lv_i2l hx hb dL_law_1721 rfl ?_
    refine W.lcmp hx hb dL_law_1722 ?_
    refine lv_if_eq (tgt := 1728) hx hb dL_law_1723 (by decide) (fun _ => ?_) (fun h9 => absurd ((lg_cmp_eq _ _).mpr (by subst ev; exact (zout_at Int32.toInt64 vo v9))) h9)
    refine lv_goto (tgt := 2784) hx hb dL_law_1728 (by decide) ?_
    refine z_widen (k := ce + 4) (n := sl + 24) (by omega) (by omega) ?_
    exact kk H0 locs ls ⟨wd, fa, od, hd, qc, qs, bc, bs, tl, rl, H, q', w', fr', tr, g', re', fi', ro', im', r, pk, cz, lh, lp, se, md, ff, now, before, chg, _, row, comes, layer, rounds, value, place, places, made, lq, left, gone, (zout Int32.toInt64 vo e), hI', hP, hD⟩ hS (lv_sub hl [2, 3, 4, 5, 6] rfl)

set_option maxHeartbeats 4000000 in
set_option maxRecDepth 100000 in
theorem zarm_atomCount (K : Nat) (hK9 : 1000000 < K) {p : Program} {l : Launch} {e0 : Env} {s : State} {m : MethodId} {below : List Frame} {meth : Method} {cd : Code} {sb L : Nat} {xs : Nat → Int32} {G : va_G} {tt : Nat → ClassId} {sa : Nat → Nat} (C : zCtx p l s m meth cd sb L xs G tt sa) (a : Nat → Nat) (b : Nat → Nat → Nat) (d : Nat → Nat → Nat → Nat) (c : Nat → Nat) (ao : Nat) {i : Nat} {iI : Int32} (hi : i + 7 ≤ L) (hiI : iI = nI i) {ce sl : Nat} (hce : ce ≤ 600000) (hsl : sl ≤ 7290000) {H0 : Heap} {locs : List Loc} (hw : zWorld G tt a b d c ao (fun q : Nat => s.heap.size ≤ q) H0) (hS : va_S (fun q : Nat => s.heap.size ≤ q) s.heap H0 locs) {ls : Array Slot} (hl : lv_has ls 9 [(0, .ref sb), (1, .ref (a 0)), (2, .ref (c 0)), (3, .ref ao), (4, .int iI)])
    (kk : ∀ (H1 : Heap) (locs1 : List Loc) (ls1 : Array Slot), zWorld G tt a b d c ao (fun q : Nat => s.heap.size ≤ q) H1 → va_S (fun q : Nat => s.heap.size ≤ q) s.heap H1 locs1 → lv_has ls1 9 [(0, .ref sb), (1, .ref (a 0)), (2, .ref (c 0)), (3, .ref ao), (4, .int iI)] → W p l e0 room_1 s m #[Value.ref sb] below meth cd H1 locs1 (ce + 4) (sl + 24) (lw_Z below #[Value.ref sb] s) (F0 m 2784 ls1 [])) :
    W p l e0 room_1 s m #[Value.ref sb] below meth cd H0 locs ce sl (lw_Z below #[Value.ref sb] s) (F0 m 1731 ls []) := by
  obtain ⟨wd, fa, od, hd, qc, qs, bc, bs, tl, rl, H, q, w, fr, tr, g, re, fi, ro, im, r, pk, cz, lh, lp, se, md, ff, now, before, chg, th, row, comes, layer, rounds, value, place, places, made, lq, left, gone, vo, hI, hP, hD⟩ := hw
  obtain ⟨hlt, hL, C0, hK, hN, hX, hNc⟩ := C
  obtain ⟨hx, hb, hr, hml, hown, hts0, hX9, hbl, hlocks, hgv⟩ := C0
  have hts : ∀ w ∈ wsL_law, w.before #[Value.ref sb] s = true := fun w h => hts0 w (zL_law w h)
  have hown : s.vm.findClass RL = some m.cls := hown
  have hA9 : ∀ q : Nat, s.heap.size ≤ q → (fun q : Nat => s.heap.size ≤ q) q := fun _ h => h
  have hbA : ¬ (fun q : Nat => s.heap.size ≤ q) sb := Nat.not_le.mpr hbl
  have hc0 : ce ≤ room_1.cells := by show ce ≤ 601024; omega
  have hs0 : sl ≤ room_1.slots := by show sl ≤ 7293034; omega
  have hc1 : ce + 1 ≤ room_1.cells := by show ce + 1 ≤ 601024; omega
  have hs1 : sl + 6 ≤ room_1.slots := by show sl + 6 ≤ 7293034; omega
  refine lv_aload_n hx hb dL_law_1731 rfl (lv_at hl 1 rfl) ?_
  refine lv_aload_n hx hb dL_law_1732 rfl (lv_at hl 0 rfl) ?_
  refine lv_iload hx hb dL_law_1733 (lv_at hl 4 rfl) ?_
  refine lv_iconst (v := (1 : Int32)) hx hb dL_law_1735 (by decide) ?_
  refine lv_iadd hx hb dL_law_1736 ?_
  refine va_sld hx hb hX9 hbl hbA hS (zin_L hi hL hiI 1 (by decide) (1 : Int32) rfl) dL_law_1737 ?_
  refine lv_topi (fun x1 ex1 => ?_)
  refine lv_aload_n hx hb dL_law_1738 rfl (lv_at hl 3 rfl) ?_
  obtain ⟨e, bb, e1, e2, hA⟩ := zI_atomCount K hK9 hI x1 th
  refine z_callW (wc := (ao, zoc tt vo) :: wL tt a b d wd fa od hd qc qs bc bs tl rl H q w fr tr g re fi ro im r pk cz lh lp se md ff) (wr := wM tt c now before chg th row comes layer rounds value place places made lq left gone) (As := [.ref (a 0), .int x1, .ref ao]) (rest := []) ⟨hx, hb, hml, hown, hts⟩ hK hN hX hNc hP hD hS hA9 (mL_atomCount l G tt sa hlt H0.size a b d wd fa od hd qc qs bc bs tl rl H q w fr tr g re fi ro im r pk cz lh lp se md ff x1 ao vo _ e1 bb hA) (vx_cwSW 3 hts gL_law_L_atomCount rfl rfl rfl (by decide +kernel) ⟨Nat.le_of_ble_eq_true rfl, Nat.le_of_ble_eq_true rfl⟩) rfl hl.1 rfl (Nat.le_of_ble_eq_true rfl) dL_law_1739 ⟨hc1, hs1⟩ (fun rr u H0 locs hw hP hD hS => ?_)
  obtain ⟨hw1, hw2⟩ := hw
  replace hw1 := hw1.symm; subst hw1
  replace hw2 := hw2.symm; subst hw2
  have hP : va_P G vwCl (wM tt c now before chg th row comes layer rounds value place places made lq left gone ++ ((ao, zoc tt (zout Int32.toInt64 vo e)) :: wL tt a b d wd fa od hd qc qs bc bs tl rl H q w fr tr g re fi ro im r pk cz lh lp se md ff)) H0 := hP
  have hD : va_D (fun q : Nat => s.heap.size ≤ q) (wM tt c now before chg th row comes layer rounds value place places made lq left gone ++ ((ao, zoc tt (zout Int32.toInt64 vo e)) :: wL tt a b d wd fa od hd qc qs bc bs tl rl H q w fr tr g re fi ro im r pk cz lh lp se md ff)) := hD
  refine lv_istore (lv' := [(5, .int bb.2), (0, .ref sb), (1, .ref (a 0)), (2, .ref (c 0)), (3, .ref ao), (4, .int iI)]) hx hb dL_law_1742 hl (by decide) rfl (fun ls hl => ?_)
  refine lv_aload_n hx hb dL_law_1744 rfl (lv_at hl 3 rfl) ?_
  refine lv_aload_n hx hb dL_law_1745 rfl (lv_at hl 1 rfl) ?_
  refine lv_iload hx hb dL_law_1746 (lv_at hl 5 rfl) ?_
  refine lv_iconst (v := (1 : Int32)) hx hb dL_law_1748 (by decide) ?_
  refine lv_iadd hx hb dL_law_1749 ?_
  refine va_sld hx hb hX9 hbl hbA hS (zin_L hi hL hiI 1 (by decide) (1 : Int32) rfl) dL_law_1750 ?_
  refine lv_topi (fun x2 ex2 => ?_)
  obtain rfl : x2 = x1 := ex2.trans ex1.symm
  refine z_callVi (wc := wM tt c now before chg th row comes layer rounds value place places made lq left gone) (wr := (ao, zoc tt (zout Int32.toInt64 vo e)) :: wL tt a b d wd fa od hd qc qs bc bs tl rl H q w fr tr g re fi ro im r pk cz lh lp se md ff) (As := [.int x2]) (rest := []) (ci := 11) ⟨hx, hb, hml, hown, hts⟩ hK hN hP hD hS hA9 (nX12_atomCount l G tt H0.size c now before chg th row comes layer rounds value place places made lq left gone x2 _ e2) (cwV 1 hts gL_law_X12_atomCount rfl rfl rfl (by decide +kernel) ⟨Nat.le_of_ble_eq_true rfl, Nat.le_of_ble_eq_true rfl⟩) rfl rfl rfl hl.1 rfl (Nat.le_of_ble_eq_true rfl) dL_law_1751 ⟨hc1, hs1⟩ (fun rr u H0 locs hw hP hD hS => ?_)
  obtain ⟨hw1, hw2⟩ := hw
  replace hw1 := hw1.symm; subst hw1
  replace hw2 := hw2.symm; subst hw2
  have hP : va_P G vwCl (((ao, zoc tt (zout Int32.toInt64 vo e)) :: wL tt a b d wd fa od hd qc qs bc bs tl rl H q w fr tr g re fi ro im r pk cz lh lp se md ff) ++ wM tt c now before chg bb.2 row comes layer rounds value place places made lq left gone) H0 := hP
  have hD : va_D (fun q : Nat => s.heap.size ≤ q) (((ao, zoc tt (zout Int32.toInt64 vo e)) :: wL tt a b d wd fa od hd qc qs bc bs tl rl H q w fr tr g re fi ro im r pk cz lh lp se md ff) ++ wM tt c now before chg bb.2 row comes layer rounds value place places made lq left gone) := hD
  refine lv_istore (lv' := [(6, .int bb.1), (5, .int bb.2), (0, .ref sb), (1, .ref (a 0)), (2, .ref (c 0)), (3, .ref ao), (4, .int iI)]) hx hb dL_law_1754 hl (by decide) rfl (fun ls hl => ?_)
  refine lv_aload_n hx hb dL_law_1756 rfl (lv_at hl 4 rfl) ?_
  have hP := zP_perm (List.perm_append_comm (l₁ := (ao, zoc tt (zout Int32.toInt64 vo e)) :: wL tt a b d wd fa od hd qc qs bc bs tl rl H q w fr tr g re fi ro im r pk cz lh lp se md ff) (l₂ := wM tt c now before chg bb.2 row comes layer rounds value place places made lq left gone)) hP
  have hD := zD_perm (List.perm_append_comm (l₁ := (ao, zoc tt (zout Int32.toInt64 vo e)) :: wL tt a b d wd fa od hd qc qs bc bs tl rl H q w fr tr g re fi ro im r pk cz lh lp se md ff) (l₂ := wM tt c now before chg bb.2 row comes layer rounds value place places made lq left gone)) hD
  refine z_callVi (wc := wM tt c now before chg bb.2 row comes layer rounds value place places made lq left gone) (wr := (ao, zoc tt (zout Int32.toInt64 vo e)) :: wL tt a b d wd fa od hd qc qs bc bs tl rl H q w fr tr g re fi ro im r pk cz lh lp se md ff) (As := []) (rest := []) (ci := 11) ⟨hx, hb, hml, hown, hts⟩ hK hN hP hD hS hA9 (nX12_thrown l G tt H0.size c now before chg bb.2 row comes layer rounds value place places made lq left gone bb.2 rfl) (cwV 0 hts gL_law_X12_thrown rfl rfl rfl (by decide +kernel) ⟨Nat.le_of_ble_eq_true rfl, Nat.le_of_ble_eq_true rfl⟩) rfl rfl rfl hl.1 rfl (Nat.le_of_ble_eq_true rfl) dL_law_1757 ⟨hc1, hs1⟩ (fun rr u H0 locs hw hP hD hS => ?_)
  replace hw := hw.symm; subst hw
  have hP : va_P G vwCl (((ao, zoc tt (zout Int32.toInt64 vo e)) :: wL tt a b d wd fa od hd qc qs bc bs tl rl H q w fr tr g re fi ro im r pk cz lh lp se md ff) ++ wM tt c now before chg bb.2 row comes layer rounds value place places made lq left gone) H0 := hP
  have hD : va_D (fun q : Nat => s.heap.size ≤ q) (((ao, zoc tt (zout Int32.toInt64 vo e)) :: wL tt a b d wd fa od hd qc qs bc bs tl rl H q w fr tr g re fi ro im r pk cz lh lp se md ff) ++ wM tt c now before chg bb.2 row comes layer rounds value place places made lq left gone) := hD
  refine lv_iload hx hb dL_law_1760 (lv_at hl 1 rfl) ?_
  refine lv_icmp_eq (tgt := 1767) hx hb dL_law_1762 (by decide) (fun _ => ?_) (fun h9 => absurd rfl h9)
  refine lv_iload hx hb dL_law_1767 (lv_at hl 1 rfl) ?_
  rcases hA with ⟨k9, hk9, ek, rfl⟩ | ⟨v9, ev, rfl⟩
  · refine lv_if_ne (tgt := 1784) hx hb dL_law_1769 (by decide) (fun _ => ?_) (fun h9 => absurd h9 (fun h => zcd_ne k9 h))
    refine lv_goto (tgt := 2784) hx hb dL_law_1784 (by decide) ?_
    refine z_widen (k := ce + 4) (n := sl + 24) (by omega) (by omega) ?_
    exact kk H0 locs ls ⟨wd, fa, od, hd, qc, qs, bc, bs, tl, rl, H, q, w, fr, tr, g, re, fi, ro, im, r, pk, cz, lh, lp, se, md, ff, now, before, chg, _, row, comes, layer, rounds, value, place, places, made, lq, left, gone, (zout Int32.toInt64 vo e), hI, hP, hD⟩ hS (lv_sub hl [2, 3, 4, 5, 6] rfl)
  · refine lv_if_ne (tgt := 1784) hx hb dL_law_1769 (by decide) (fun h9 => absurd rfl h9) (fun _ => ?_)
    refine lv_aload_n hx hb dL_law_1772 rfl (lv_at hl 5 rfl) ?_
    refine lv_iconst (v := (0 : Int32)) hx hb dL_law_1773 (by decide) ?_
    refine va_lald hx hb hK hP 0 1 rfl rfl (inB_vp (by decide)) dL_law_1774 ?_
    refine lv_iload hx hb dL_law_1775 (lv_at hl 0 rfl) ?_
    refine lv_i2l hx hb dL_law_1777 rfl ?_
    refine W.lcmp hx hb dL_law_1778 ?_
    refine lv_if_eq (tgt := 1784) hx hb dL_law_1779 (by decide) (fun _ => ?_) (fun h9 => absurd ((lg_cmp_eq _ _).mpr (by subst ev; exact (zout_at Int32.toInt64 vo v9))) h9)
    refine lv_goto (tgt := 2784) hx hb dL_law_1784 (by decide) ?_
    refine z_widen (k := ce + 4) (n := sl + 24) (by omega) (by omega) ?_
    exact kk H0 locs ls ⟨wd, fa, od, hd, qc, qs, bc, bs, tl, rl, H, q, w, fr, tr, g, re, fi, ro, im, r, pk, cz, lh, lp, se, md, ff, now, before, chg, _, row, comes, layer, rounds, value, place, places, made, lq, left, gone, (zout Int32.toInt64 vo e), hI, hP, hD⟩ hS (lv_sub hl [2, 3, 4, 5, 6] rfl)
