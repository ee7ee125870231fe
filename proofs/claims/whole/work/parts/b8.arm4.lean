/-! the arms of the law's loop -/
set_option maxHeartbeats 4000000 in
set_option maxRecDepth 100000 in
theorem zarm_ruleCount (K : Nat) (hK9 : 1000000 < K) {p : Program} {l : Launch} {e0 : Env} {s : State} {m : MethodId} {below : List Frame} {meth : Method} {cd : Code} {sb L : Nat} {xs : Nat → Int32} {G : va_G} {tt : Nat → ClassId} {sa : Nat → Nat} (C : zCtx p l s m meth cd sb L xs G tt sa) (a : Nat → Nat) (b : Nat → Nat → Nat) (d : Nat → Nat → Nat → Nat) (c : Nat → Nat) (ao : Nat) {i : Nat} {iI : Int32} (hi : i + 7 ≤ L) (hiI : iI = nI i) {ce sl : Nat} (hce : ce ≤ 600000) (hsl : sl ≤ 7290000) {H0 : Heap} {locs : List Loc} (hw : zWorld G tt a b d c ao (fun q : Nat => s.heap.size ≤ q) H0) (hS : va_S (fun q : Nat => s.heap.size ≤ q) s.heap H0 locs) {ls : Array Slot} (hl : lv_has ls 9 [(0, .ref sb), (1, .ref (a 0)), (2, .ref (c 0)), (3, .ref ao), (4, .int iI)])
    (kk : ∀ (H1 : Heap) (locs1 : List Loc) (ls1 : Array Slot), zWorld G tt a b d c ao (fun q : Nat => s.heap.size ≤ q) H1 → va_S (fun q : Nat => s.heap.size ≤ q) s.heap H1 locs1 → lv_has ls1 9 [(0, .ref sb), (1, .ref (a 0)), (2, .ref (c 0)), (3, .ref ao), (4, .int iI)] → W p l e0 room_1 s m #[Value.ref sb] below meth cd H1 locs1 (ce + 4) (sl + 24) (lw_Z below #[Value.ref sb] s) (F0 m 2784 ls1 [])) :
    W p l e0 room_1 s m #[Value.ref sb] below meth cd H0 locs ce sl (lw_Z below #[Value.ref sb] s) (F0 m 2473 ls []) := by
  obtain ⟨wd, fa, od, hd, qc, qs, bc, bs, tl, rl, H, q, w, fr, tr, g, re, fi, ro, im, r, pk, cz, lh, lp, se, md, ff, now, before, chg, th, row, comes, layer, rounds, value, place, places, made, lq, left, gone, vo, hI, hP, hD⟩ := hw
  obtain ⟨hlt, hL, C0, hK, hN, hX, hNc⟩ := C
  obtain ⟨hx, hb, hr, hml, hown, hts0, hX9, hbl, hlocks, hgv⟩ := C0
  have hts : ∀ w ∈ wsL_law, w.before #[Value.ref sb] s = true := fun w h => hts0 w (zL_law w h)
  have hown : s.vm.findClass RL = some m.cls := hown
  have hA9 : ∀ q : Nat, s.heap.size ≤ q → (fun q : Nat => s.heap.size ≤ q) q := fun _ h => h
  have hbA : ¬ (fun q : Nat => s.heap.size ≤ q) sb := Nat.not_le.mpr hbl
  have hc0 : ce ≤ room_1.cells := by show ce ≤ 601024; omega
  have hs0 : sl ≤ room_1.slots := by show sl ≤ 7293034; omega
  have hc1 : ce + 0 ≤ room_1.cells := by show ce + 0 ≤ 601024; omega
  have hs1 : sl + 0 ≤ room_1.slots := by show sl + 0 ≤ 7293034; omega
  refine lv_aload_n hx hb dL_law_2473 rfl (lv_at hl 1 rfl) ?_
  obtain ⟨e1, e2⟩ := zI_ruleCount hI th
  have hP := zP_perm (List.perm_middle (a := (ao, zoc tt vo)) (l₁ := wL tt a b d wd fa od hd qc qs bc bs tl rl H q w fr tr g re fi ro im r pk cz lh lp se md ff) (l₂ := wM tt c now before chg th row comes layer rounds value place places made lq left gone)).symm hP
  have hD := zD_perm (List.perm_middle (a := (ao, zoc tt vo)) (l₁ := wL tt a b d wd fa od hd qc qs bc bs tl rl H q w fr tr g re fi ro im r pk cz lh lp se md ff) (l₂ := wM tt c now before chg th row comes layer rounds value place places made lq left gone)).symm hD
  refine z_callVi (wc := wL tt a b d wd fa od hd qc qs bc bs tl rl H q w fr tr g re fi ro im r pk cz lh lp se md ff) (wr := (ao, zoc tt vo) :: wM tt c now before chg th row comes layer rounds value place places made lq left gone) (As := []) (rest := []) (ci := 10) ⟨hx, hb, hml, hown, hts⟩ hK hN hP hD hS hA9 (nX11_ruleCount l G tt H0.size a b d wd fa od hd qc qs bc bs tl rl H q w fr tr g re fi ro im r pk cz lh lp se md ff _ e1) (cwV 0 hts gL_law_X11_ruleCount rfl rfl rfl (by decide +kernel) ⟨Nat.le_of_ble_eq_true rfl, Nat.le_of_ble_eq_true rfl⟩) rfl rfl rfl hl.1 rfl (Nat.le_of_ble_eq_true rfl) dL_law_2474 ⟨hc0, hs0⟩ (fun rr u H0 locs hw hP hD hS => ?_)
  replace hw := hw.symm; subst hw
  have hP : va_P G vwCl ((ao, zoc tt vo) :: (wM tt c now before chg th row comes layer rounds value place places made lq left gone ++ wL tt a b d wd fa od hd qc qs bc bs tl rl H q w fr tr g re fi ro im r pk cz lh lp se md ff)) H0 := hP
  have hD : va_D (fun q : Nat => s.heap.size ≤ q) ((ao, zoc tt vo) :: (wM tt c now before chg th row comes layer rounds value place places made lq left gone ++ wL tt a b d wd fa od hd qc qs bc bs tl rl H q w fr tr g re fi ro im r pk cz lh lp se md ff)) := hD
  have hP := zP_perm (List.perm_middle (a := (ao, zoc tt vo)) (l₁ := wM tt c now before chg th row comes layer rounds value place places made lq left gone) (l₂ := wL tt a b d wd fa od hd qc qs bc bs tl rl H q w fr tr g re fi ro im r pk cz lh lp se md ff)).symm hP
  have hD := zD_perm (List.perm_middle (a := (ao, zoc tt vo)) (l₁ := wM tt c now before chg th row comes layer rounds value place places made lq left gone) (l₂ := wL tt a b d wd fa od hd qc qs bc bs tl rl H q w fr tr g re fi ro im r pk cz lh lp se md ff)).symm hD
  refine lv_aload_n hx hb dL_law_2477 rfl (lv_at hl 2 rfl) ?_
  refine z_callVi (wc := wM tt c now before chg th row comes layer rounds value place places made lq left gone) (wr := (ao, zoc tt vo) :: wL tt a b d wd fa od hd qc qs bc bs tl rl H q w fr tr g re fi ro im r pk cz lh lp se md ff) (As := []) (rest := [.int rl]) (ci := 11) ⟨hx, hb, hml, hown, hts⟩ hK hN hP hD hS hA9 (nX12_ruleCount l G tt H0.size c now before chg th row comes layer rounds value place places made lq left gone  _ e2) (cwV 0 hts gL_law_X12_ruleCount rfl rfl rfl (by decide +kernel) ⟨Nat.le_of_ble_eq_true rfl, Nat.le_of_ble_eq_true rfl⟩) rfl rfl rfl hl.1 rfl (Nat.le_of_ble_eq_true rfl) dL_law_2478 ⟨hc0, hs0⟩ (fun rr u H0 locs hw hP hD hS => ?_)
  obtain ⟨hw1, hw2⟩ := hw
  replace hw1 := hw1.symm; subst hw1
  replace hw2 := hw2.symm; subst hw2
  have hP : va_P G vwCl (((ao, zoc tt vo) :: wL tt a b d wd fa od hd qc qs bc bs tl rl H q w fr tr g re fi ro im r pk cz lh lp se md ff) ++ wM tt c now before chg 0 row comes layer rounds value place places made lq left gone) H0 := hP
  have hD : va_D (fun q : Nat => s.heap.size ≤ q) (((ao, zoc tt vo) :: wL tt a b d wd fa od hd qc qs bc bs tl rl H q w fr tr g re fi ro im r pk cz lh lp se md ff) ++ wM tt c now before chg 0 row comes layer rounds value place places made lq left gone) := hD
  refine lv_icmp_eq (tgt := 2784) hx hb dL_law_2481 (by decide) (fun _ => ?_) (fun h9 => absurd rfl h9)
  refine z_widen (k := ce + 4) (n := sl + 24) (by omega) (by omega) ?_
  refine z_widen (k := ce + 4) (n := sl + 24) (by omega) (by omega) ?_
  exact kk H0 locs ls ⟨wd, fa, od, hd, qc, qs, bc, bs, tl, rl, H, q, w, fr, tr, g, re, fi, ro, im, r, pk, cz, lh, lp, se, md, ff, now, before, chg, 0, row, comes, layer, rounds, value, place, places, made, lq, left, gone, vo, hI, hP, hD⟩ hS (lv_sub hl [0, 1, 2, 3, 4] rfl)

set_option maxHeartbeats 4000000 in
set_option maxRecDepth 100000 in
theorem zarm_isIdle (K : Nat) (hK9 : 1000000 < K) {p : Program} {l : Launch} {e0 : Env} {s : State} {m : MethodId} {below : List Frame} {meth : Method} {cd : Code} {sb L : Nat} {xs : Nat → Int32} {G : va_G} {tt : Nat → ClassId} {sa : Nat → Nat} (C : zCtx p l s m meth cd sb L xs G tt sa) (a : Nat → Nat) (b : Nat → Nat → Nat) (d : Nat → Nat → Nat → Nat) (c : Nat → Nat) (ao : Nat) {i : Nat} {iI : Int32} (hi : i + 7 ≤ L) (hiI : iI = nI i) {ce sl : Nat} (hce : ce ≤ 600000) (hsl : sl ≤ 7290000) {H0 : Heap} {locs : List Loc} (hw : zWorld G tt a b d c ao (fun q : Nat => s.heap.size ≤ q) H0) (hS : va_S (fun q : Nat => s.heap.size ≤ q) s.heap H0 locs) {ls : Array Slot} (hl : lv_has ls 9 [(0, .ref sb), (1, .ref (a 0)), (2, .ref (c 0)), (3, .ref ao), (4, .int iI)])
    (kk : ∀ (H1 : Heap) (locs1 : List Loc) (ls1 : Array Slot), zWorld G tt a b d c ao (fun q : Nat => s.heap.size ≤ q) H1 → va_S (fun q : Nat => s.heap.size ≤ q) s.heap H1 locs1 → lv_has ls1 9 [(0, .ref sb), (1, .ref (a 0)), (2, .ref (c 0)), (3, .ref ao), (4, .int iI)] → W p l e0 room_1 s m #[Value.ref sb] below meth cd H1 locs1 (ce + 4) (sl + 24) (lw_Z below #[Value.ref sb] s) (F0 m 2784 ls1 [])) :
    W p l e0 room_1 s m #[Value.ref sb] below meth cd H0 locs ce sl (lw_Z below #[Value.ref sb] s) (F0 m 2486 ls []) := by
  obtain ⟨wd, fa, od, hd, qc, qs, bc, bs, tl, rl, H, q, w, fr, tr, g, re, fi, ro, im, r, pk, cz, lh, lp, se, md, ff, now, before, chg, th, row, comes, layer, rounds, value, place, places, made, lq, left, gone, vo, hI, hP, hD⟩ := hw
  obtain ⟨hlt, hL, C0, hK, hN, hX, hNc⟩ := C
  obtain ⟨hx, hb, hr, hml, hown, hts0, hX9, hbl, hlocks, hgv⟩ := C0
  have hts : ∀ w ∈ wsL_law, w.before #[Value.ref sb] s = true := fun w h => hts0 w (zL_law w h)
  have hown : s.vm.findClass RL = some m.cls := hown
  have hA9 : ∀ q : Nat, s.heap.size ≤ q → (fun q : Nat => s.heap.size ≤ q) q := fun _ h => h
  have hbA : ¬ (fun q : Nat => s.heap.size ≤ q) sb := Nat.not_le.mpr hbl
  have hc0 : ce ≤ room_1.cells := by show ce ≤ 601024; omega
  have hs0 : sl ≤ room_1.slots := by show sl ≤ 7293034; omega
  have hc1 : ce + 1 ≤ room_1.cells := by show ce + 1 ≤ 601024; omega
  have hs1 : sl + 6 ≤ room_1.slots := by show sl + 6 ≤ 7293034; omega
  refine lv_aload_n hx hb dL_law_2486 rfl (lv_at hl 1 rfl) ?_
  refine lv_aload_n hx hb dL_law_2487 rfl (lv_at hl 0 rfl) ?_
  refine lv_iload hx hb dL_law_2488 (lv_at hl 4 rfl) ?_
  refine lv_iconst (v := (1 : Int32)) hx hb dL_law_2490 (by decide) ?_
  refine lv_iadd hx hb dL_law_2491 ?_
  refine va_sld hx hb hX9 hbl hbA hS (zin_L hi hL hiI 1 (by decide) (1 : Int32) rfl) dL_law_2492 ?_
  refine lv_topi (fun x1 ex1 => ?_)
  refine lv_aload_n hx hb dL_law_2493 rfl (lv_at hl 3 rfl) ?_
  obtain ⟨e, bb, e1, e2, hA⟩ := zI_isIdle K hK9 hI x1 th
  refine z_callW (wc := (ao, zoc tt vo) :: wL tt a b d wd fa od hd qc qs bc bs tl rl H q w fr tr g re fi ro im r pk cz lh lp se md ff) (wr := wM tt c now before chg th row comes layer rounds value place places made lq left gone) (As := [.ref (a 0), .int x1, .ref ao]) (rest := []) ⟨hx, hb, hml, hown, hts⟩ hK hN hX hNc hP hD hS hA9 (mL_isIdle l G tt sa hlt H0.size K a b d wd fa od hd qc qs bc bs tl rl H q w fr tr g re fi ro im r pk cz lh lp se md ff x1 ao vo _ e1 bb hA) (vx_cwSW 3 hts gL_law_L_isIdle rfl rfl rfl (by decide +kernel) ⟨Nat.le_of_ble_eq_true rfl, Nat.le_of_ble_eq_true rfl⟩) rfl hl.1 rfl (Nat.le_of_ble_eq_true rfl) dL_law_2494 ⟨hc1, hs1⟩ (fun rr u H0 locs hw hP hD hS => ?_)
  obtain ⟨hw1, hw2⟩ := hw
  replace hw1 := hw1.symm; subst hw1
  replace hw2 := hw2.symm; subst hw2
  have hP : va_P G vwCl (wM tt c now before chg th row comes layer rounds value place places made lq left gone ++ ((ao, zoc tt (zout zbL vo e)) :: wL tt a b d wd fa od hd qc qs bc bs tl rl H q w fr tr g re fi ro im r pk cz lh lp se md ff)) H0 := hP
  have hD : va_D (fun q : Nat => s.heap.size ≤ q) (wM tt c now before chg th row comes layer rounds value place places made lq left gone ++ ((ao, zoc tt (zout zbL vo e)) :: wL tt a b d wd fa od hd qc qs bc bs tl rl H q w fr tr g re fi ro im r pk cz lh lp se md ff)) := hD
  refine lv_istore (lv' := [(5, .int bb.2), (0, .ref sb), (1, .ref (a 0)), (2, .ref (c 0)), (3, .ref ao), (4, .int iI)]) hx hb dL_law_2497 hl (by decide) rfl (fun ls hl => ?_)
  refine lv_aload_n hx hb dL_law_2499 rfl (lv_at hl 3 rfl) ?_
  refine lv_aload_n hx hb dL_law_2500 rfl (lv_at hl 1 rfl) ?_
  refine lv_iload hx hb dL_law_2501 (lv_at hl 5 rfl) ?_
  refine lv_iconst (v := (1 : Int32)) hx hb dL_law_2503 (by decide) ?_
  refine lv_iadd hx hb dL_law_2504 ?_
  refine va_sld hx hb hX9 hbl hbA hS (zin_L hi hL hiI 1 (by decide) (1 : Int32) rfl) dL_law_2505 ?_
  refine lv_topi (fun x2 ex2 => ?_)
  obtain rfl : x2 = x1 := ex2.trans ex1.symm
  refine z_callVi (wc := wM tt c now before chg th row comes layer rounds value place places made lq left gone) (wr := (ao, zoc tt (zout zbL vo e)) :: wL tt a b d wd fa od hd qc qs bc bs tl rl H q w fr tr g re fi ro im r pk cz lh lp se md ff) (As := [.int x2]) (rest := []) (ci := 11) ⟨hx, hb, hml, hown, hts⟩ hK hN hP hD hS hA9 (nX12_isIdle l G tt H0.size K c now before chg th row comes layer rounds value place places made lq left gone x2 _ e2) (cwV 1 hts gL_law_X12_isIdle rfl rfl rfl (by decide +kernel) ⟨Nat.le_of_ble_eq_true rfl, Nat.le_of_ble_eq_true rfl⟩) rfl rfl rfl hl.1 rfl (Nat.le_of_ble_eq_true rfl) dL_law_2506 ⟨hc1, hs1⟩ (fun rr u H0 locs hw hP hD hS => ?_)
  obtain ⟨hw1, hw2⟩ := hw
  replace hw1 := hw1.symm; subst hw1
  replace hw2 := hw2.symm; subst hw2
  have hP : va_P G vwCl (((ao, zoc tt (zout zbL vo e)) :: wL tt a b d wd fa od hd qc qs bc bs tl rl H q w fr tr g re fi ro im r pk cz lh lp se md ff) ++ wM tt c now before chg bb.2 row comes layer rounds value place places made lq left gone) H0 := hP
  have hD : va_D (fun q : Nat => s.heap.size ≤ q) (((ao, zoc tt (zout zbL vo e)) :: wL tt a b d wd fa od hd qc qs bc bs tl rl H q w fr tr g re fi ro im r pk cz lh lp se md ff) ++ wM tt c now before chg bb.2 row comes layer rounds value place places made lq left gone) := hD
  refine lv_istore (lv' := [(6, .int (bI bb.1)), (5, .int bb.2), (0, .ref sb), (1, .ref (a 0)), (2, .ref (c 0)), (3, .ref ao), (4, .int iI)]) hx hb dL_law_2509 hl (by decide) rfl (fun ls hl => ?_)
  refine lv_aload_n hx hb dL_law_2511 rfl (lv_at hl 4 rfl) ?_
  have hP := zP_perm (List.perm_append_comm (l₁ := (ao, zoc tt (zout zbL vo e)) :: wL tt a b d wd fa od hd qc qs bc bs tl rl H q w fr tr g re fi ro im r pk cz lh lp se md ff) (l₂ := wM tt c now before chg bb.2 row comes layer rounds value place places made lq left gone)) hP
  have hD := zD_perm (List.perm_append_comm (l₁ := (ao, zoc tt (zout zbL vo e)) :: wL tt a b d wd fa od hd qc qs bc bs tl rl H q w fr tr g re fi ro im r pk cz lh lp se md ff) (l₂ := wM tt c now before chg bb.2 row comes layer rounds value place places made lq left gone)) hD
  refine z_callVi (wc := wM tt c now before chg bb.2 row comes layer rounds value place places made lq left gone) (wr := (ao, zoc tt (zout zbL vo e)) :: wL tt a b d wd fa od hd qc qs bc bs tl rl H q w fr tr g re fi ro im r pk cz lh lp se md ff) (As := []) (rest := []) (ci := 11) ⟨hx, hb, hml, hown, hts⟩ hK hN hP hD hS hA9 (nX12_thrown l G tt H0.size c now before chg bb.2 row comes layer rounds value place places made lq left gone bb.2 rfl) (cwV 0 hts gL_law_X12_thrown rfl rfl rfl (by decide +kernel) ⟨Nat.le_of_ble_eq_true rfl, Nat.le_of_ble_eq_true rfl⟩) rfl rfl rfl hl.1 rfl (Nat.le_of_ble_eq_true rfl) dL_law_2512 ⟨hc1, hs1⟩ (fun rr u H0 locs hw hP hD hS => ?_)
  replace hw := hw.symm; subst hw
  have hP : va_P G vwCl (((ao, zoc tt (zout zbL vo e)) :: wL tt a b d wd fa od hd qc qs bc bs tl rl H q w fr tr g re fi ro im r pk cz lh lp se md ff) ++ wM tt c now before chg bb.2 row comes layer rounds value place places made lq left gone) H0 := hP
  have hD : va_D (fun q : Nat => s.heap.size ≤ q) (((ao, zoc tt (zout zbL vo e)) :: wL tt a b d wd fa od hd qc qs bc bs tl rl H q w fr tr g re fi ro im r pk cz lh lp se md ff) ++ wM tt c now before chg bb.2 row comes layer rounds value place places made lq left gone) := hD
  refine lv_iload hx hb dL_law_2515 (lv_at hl 1 rfl) ?_
  refine lv_icmp_eq (tgt := 2522) hx hb dL_law_2517 (by decide) (fun _ => ?_) (fun h9 => absurd rfl h9)
  refine lv_iload hx hb dL_law_2522 (lv_at hl 1 rfl) ?_
  rcases hA with ⟨k9, hk9, ek, rfl⟩ | ⟨v9, ev, rfl⟩
  · refine lv_if_ne (tgt := 2546) hx hb dL_law_2524 (by decide) (fun _ => ?_) (fun h9 => absurd h9 (fun h => zcd_ne k9 h))
    refine lv_goto (tgt := 2784) hx hb dL_law_2546 (by decide) ?_
    refine z_widen (k := ce + 4) (n := sl + 24) (by omega) (by omega) ?_
    exact kk H0 locs ls ⟨wd, fa, od, hd, qc, qs, bc, bs, tl, rl, H, q, w, fr, tr, g, re, fi, ro, im, r, pk, cz, lh, lp, se, md, ff, now, before, chg, _, row, comes, layer, rounds, value, place, places, made, lq, left, gone, (zout zbL vo e), hI, hP, hD⟩ hS (lv_sub hl [2, 3, 4, 5, 6] rfl)
  · refine lv_if_ne (tgt := 2546) hx hb dL_law_2524 (by decide) (fun h9 => absurd rfl h9) (fun _ => ?_)
    refine lv_aload_n hx hb dL_law_2527 rfl (lv_at hl 5 rfl) ?_
    refine lv_iconst (v := (0 : Int32)) hx hb dL_law_2528 (by decide) ?_
    refine va_lald hx hb hK hP 0 1 rfl rfl (inB_vp (by decide)) dL_law_2529 ?_
    refine lv_iload hx hb dL_law_2530 (lv_at hl 0 rfl) ?_
    cases v9
    · refine lv_if_eq (tgt := 2539) hx hb dL_law_2532 (by decide) (fun _ => ?_) (fun h9 => absurd rfl h9)
      refine lv_lconst (v := (0 : Int64)) hx hb dL_law_2539 (by decide) ?_
      refine W.lcmp hx hb dL_law_2540 ?_
      refine lv_if_eq (tgt := 2546) hx hb dL_law_2541 (by decide) (fun _ => ?_) (fun h9 => absurd ((lg_cmp_eq _ _).mpr (by subst ev; exact (zout_at zbL vo false))) h9)
      refine lv_goto (tgt := 2784) hx hb dL_law_2546 (by decide) ?_
      refine z_widen (k := ce + 4) (n := sl + 24) (by omega) (by omega) ?_
      exact kk H0 locs ls ⟨wd, fa, od, hd, qc, qs, bc, bs, tl, rl, H, q, w, fr, tr, g, re, fi, ro, im, r, pk, cz, lh, lp, se, md, ff, now, before, chg, _, row, comes, layer, rounds, value, place, places, made, lq, left, gone, (zout zbL vo e), hI, hP, hD⟩ hS (lv_sub hl [2, 3, 4, 5, 6] rfl)
    · refine lv_if_eq (tgt := 2539) hx hb dL_law_2532 (by decide) (fun h9 => absurd h9 (by decide)) (fun _ => ?_)
      refine lv_lconst (v := (1 : Int64)) hx hb dL_law_2535 (by decide) ?_
      refine lv_goto (tgt := 2540) hx hb dL_law_2536 (by decide) ?_
      refine W.lcmp hx hb dL_law_2540 ?_
      refine lv_if_eq (tgt := 2546) hx hb dL_law_2541 (by decide) (fun _ => ?_) (fun h9 => absurd ((lg_cmp_eq _ _).mpr (by subst ev; exact (zout_at zbL vo true))) h9)
      refine lv_goto (tgt := 2784) hx hb dL_law_2546 (by decide) ?_
      refine z_widen (k := ce + 4) (n := sl + 24) (by omega) (by omega) ?_
      exact kk H0 locs ls ⟨wd, fa, od, hd, qc, qs, bc, bs, tl, rl, H, q, w, fr, tr, g, re, fi, ro, im, r, pk, cz, lh, lp, se, md, ff, now, before, chg, _, row, comes, layer, rounds, value, place, places, made, lq, left, gone, (zout zbL vo e), hI, hP, hD⟩ hS (lv_sub hl [2, 3, 4, 5, 6] rfl)

set_option maxHeartbeats 4000000 in
set_option maxRecDepth 100000 in
theorem zarm_layerOf (K : Nat) (hK9 : 1000000 < K) {p : Program} {l : Launch} {e0 : Env} {s : State} {m : MethodId} {below : List Frame} {meth : Method} {cd : Code} {sb L : Nat} {xs : Nat → Int32} {G : va_G} {tt : Nat → ClassId} {sa : Nat → Nat} (C : zCtx p l s m meth cd sb L xs G tt sa) (a : Nat → Nat) (b : Nat → Nat → Nat) (d : Nat → Nat → Nat → Nat) (c : Nat → Nat) (ao : Nat) {i : Nat} {iI : Int32} (hi : i + 7 ≤ L) (hiI : iI = nI i) {ce sl : Nat} (hce : ce ≤ 600000) (hsl : sl ≤ 7290000) {H0 : Heap} {locs : List Loc} (hw : zWorld G tt a b d c ao (fun q : Nat => s.heap.size ≤ q) H0) (hS : va_S (fun q : Nat => s.heap.size ≤ q) s.heap H0 locs) {ls : Array Slot} (hl : lv_has ls 9 [(0, .ref sb), (1, .ref (a 0)), (2, .ref (c 0)), (3, .ref ao), (4, .int iI)])
    (kk : ∀ (H1 : Heap) (locs1 : List Loc) (ls1 : Array Slot), zWorld G tt a b d c ao (fun q : Nat => s.heap.size ≤ q) H1 → va_S (fun q : Nat => s.heap.size ≤ q) s.heap H1 locs1 → lv_has ls1 9 [(0, .ref sb), (1, .ref (a 0)), (2, .ref (c 0)), (3, .ref ao), (4, .int iI)] → W p l e0 room_1 s m #[Value.ref sb] below meth cd H1 locs1 (ce + 4) (sl + 24) (lw_Z below #[Value.ref sb] s) (F0 m 2784 ls1 [])) :
    W p l e0 room_1 s m #[Value.ref sb] below meth cd H0 locs ce sl (lw_Z below #[Value.ref sb] s) (F0 m 2549 ls []) := by
  obtain ⟨wd, fa, od, hd, qc, qs, bc, bs, tl, rl, H, q, w, fr, tr, g, re, fi, ro, im, r, pk, cz, lh, lp, se, md, ff, now, before, chg, th, row, comes, layer, rounds, value, place, places, made, lq, left, gone, vo, hI, hP, hD⟩ := hw
  obtain ⟨hlt, hL, C0, hK, hN, hX, hNc⟩ := C
  obtain ⟨hx, hb, hr, hml, hown, hts0, hX9, hbl, hlocks, hgv⟩ := C0
  have hts : ∀ w ∈ wsL_law, w.before #[Value.ref sb] s = true := fun w h => hts0 w (zL_law w h)
  have hown : s.vm.findClass RL = some m.cls := hown
  have hA9 : ∀ q : Nat, s.heap.size ≤ q → (fun q : Nat => s.heap.size ≤ q) q := fun _ h => h
  have hbA : ¬ (fun q : Nat => s.heap.size ≤ q) sb := Nat.not_le.mpr hbl
  have hc0 : ce ≤ room_1.cells := by show ce ≤ 601024; omega
  have hs0 : sl ≤ room_1.slots := by show sl ≤ 7293034; omega
  have hc1 : ce + 1 ≤ room_1.cells := by show ce + 1 ≤ 601024; omega
  have hs1 : sl + 6 ≤ room_1.slots := by show sl + 6 ≤ 7293034; omega
  refine lv_aload_n hx hb dL_law_2549 rfl (lv_at hl 1 rfl) ?_
  refine lv_aload_n hx hb dL_law_2550 rfl (lv_at hl 0 rfl) ?_
  refine lv_iload hx hb dL_law_2551 (lv_at hl 4 rfl) ?_
  refine lv_iconst (v := (1 : Int32)) hx hb dL_law_2553 (by decide) ?_
  refine lv_iadd hx hb dL_law_2554 ?_
  refine va_sld hx hb hX9 hbl hbA hS (zin_L hi hL hiI 1 (by decide) (1 : Int32) rfl) dL_law_2555 ?_
  refine lv_topi (fun x1 ex1 => ?_)
  refine lv_aload_n hx hb dL_law_2556 rfl (lv_at hl 3 rfl) ?_
  obtain ⟨e, bb, q', w', fr', g', re', fi', ro', im', e1, e2, hA, hI'⟩ := zI_layerOf K hK9 hI q fr x1 th
  unfold zapg at e1
  refine z_callW (wc := (ao, zoc tt vo) :: wL tt a b d wd fa od hd qc qs bc bs tl rl H q w fr tr g re fi ro im r pk cz lh lp se md ff) (wr := wM tt c now before chg th row comes layer rounds value place places made lq left gone) (As := [.ref (a 0), .int x1, .ref ao]) (rest := []) ⟨hx, hb, hml, hown, hts⟩ hK hN hX hNc hP hD hS hA9 (mL_layerOf l G tt sa hlt H0.size K a b d wd fa od hd qc qs bc bs tl rl H q w fr tr g re fi ro im r pk cz lh lp se md ff x1 ao vo _ e1 bb hA) (vx_cwSW 3 hts gL_law_L_layerOf rfl rfl rfl (by decide +kernel) ⟨Nat.le_of_ble_eq_true rfl, Nat.le_of_ble_eq_true rfl⟩) rfl hl.1 rfl (Nat.le_of_ble_eq_true rfl) dL_law_2557 ⟨hc1, hs1⟩ (fun rr u H0 locs hw hP hD hS => ?_)
  obtain ⟨hw1, hw2⟩ := hw
  replace hw1 := hw1.symm; subst hw1
  replace hw2 := hw2.symm; subst hw2
  have hP : va_P G vwCl (wM tt c now before chg th row comes layer rounds value place places made lq left gone ++ ((ao, zoc tt (zout Int32.toInt64 vo e)) :: wL tt a b d wd fa od hd qc qs bc bs tl rl H q' w' fr' tr g' re' fi' ro' im' r pk cz lh lp se md ff)) H0 := hP
  have hD : va_D (fun q : Nat => s.heap.size ≤ q) (wM tt c now before chg th row comes layer rounds value place places made lq left gone ++ ((ao, zoc tt (zout Int32.toInt64 vo e)) :: wL tt a b d wd fa od hd qc qs bc bs tl rl H q' w' fr' tr g' re' fi' ro' im' r pk cz lh lp se md ff)) := hD
  refine lv_istore (lv' := [(5, .int bb.2), (0, .ref sb), (1, .ref (a 0)), (2, .ref (c 0)), (3, .ref ao), (4, .int iI)]) hx hb dL_law_2560 hl (by decide) rfl (fun ls hl => ?_)
  refine lv_aload_n hx hb dL_law_2562 rfl (lv_at hl 3 rfl) ?_
  refine lv_aload_n hx hb dL_law_2563 rfl (lv_at hl 1 rfl) ?_
  refine lv_iload hx hb dL_law_2564 (lv_at hl 5 rfl) ?_
  refine lv_iconst (v := (1 : Int32)) hx hb dL_law_2566 (by decide) ?_
  refine lv_iadd hx hb dL_law_2567 ?_
  refine va_sld hx hb hX9 hbl hbA hS (zin_L hi hL hiI 1 (by decide) (1 : Int32) rfl) dL_law_2568 ?_
  refine lv_topi (fun x2 ex2 => ?_)
  obtain rfl : x2 = x1 := ex2.trans ex1.symm
  refine z_callVi (wc := wM tt c now before chg th row comes layer rounds value place places made lq left gone) (wr := (ao, zoc tt (zout Int32.toInt64 vo e)) :: wL tt a b d wd fa od hd qc qs bc bs tl rl H q' w' fr' tr g' re' fi' ro' im' r pk cz lh lp se md ff) (As := [.int x2]) (rest := []) (ci := 11) ⟨hx, hb, hml, hown, hts⟩ hK hN hP hD hS hA9 (nX12_layerOf l G tt H0.size c now before chg th row comes layer rounds value place places made lq left gone x2 _ e2) (cwV 1 hts gL_law_X12_layerOf rfl rfl rfl (by decide +kernel) ⟨Nat.le_of_ble_eq_true rfl, Nat.le_of_ble_eq_true rfl⟩) rfl rfl rfl hl.1 rfl (Nat.le_of_ble_eq_true rfl) dL_law_2569 ⟨hc1, hs1⟩ (fun rr u H0 locs hw hP hD hS => ?_)
  obtain ⟨hw1, hw2⟩ := hw
  replace hw1 := hw1.symm; subst hw1
  replace hw2 := hw2.symm; subst hw2
  have hP : va_P G vwCl (((ao, zoc tt (zout Int32.toInt64 vo e)) :: wL tt a b d wd fa od hd qc qs bc bs tl rl H q' w' fr' tr g' re' fi' ro' im' r pk cz lh lp se md ff) ++ wM tt c now before chg bb.2 row comes layer rounds value place places made lq left gone) H0 := hP
  have hD : va_D (fun q : Nat => s.heap.size ≤ q) (((ao, zoc tt (zout Int32.toInt64 vo e)) :: wL tt a b d wd fa od hd qc qs bc bs tl rl H q' w' fr' tr g' re' fi' ro' im' r pk cz lh lp se md ff) ++ wM tt c now before chg bb.2 row comes layer rounds value place places made lq left gone) := hD
  refine lv_istore (lv' := [(6, .int bb.1), (5, .int bb.2), (0, .ref sb), (1, .ref (a 0)), (2, .ref (c 0)), (3, .ref ao), (4, .int iI)]) hx hb dL_law_2572 hl (by decide) rfl (fun ls hl => ?_)
  refine lv_aload_n hx hb dL_law_2574 rfl (lv_at hl 4 rfl) ?_
  have hP := zP_perm (List.perm_append_comm (l₁ := (ao, zoc tt (zout Int32.toInt64 vo e)) :: wL tt a b d wd fa od hd qc qs bc bs tl rl H q' w' fr' tr g' re' fi' ro' im' r pk cz lh lp se md ff) (l₂ := wM tt c now before chg bb.2 row comes layer rounds value place places made lq left gone)) hP
  have hD := zD_perm (List.perm_append_comm (l₁ := (ao, zoc tt (zout Int32.toInt64 vo e)) :: wL tt a b d wd fa od hd qc qs bc bs tl rl H q' w' fr' tr g' re' fi' ro' im' r pk cz lh lp se md ff) (l₂ := wM tt c now before chg bb.2 row comes layer rounds value place places made lq left gone)) hD
  refine z_callVi (wc := wM tt c now before chg bb.2 row comes layer rounds value place places made lq left gone) (wr := (ao, zoc tt (zout Int32.toInt64 vo e)) :: wL tt a b d wd fa od hd qc qs bc bs tl rl H q' w' fr' tr g' re' fi' ro' im' r pk cz lh lp se md ff) (As := []) (rest := []) (ci := 11) ⟨hx, hb, hml, hown, hts⟩ hK hN hP hD hS hA9 (nX12_thrown l G tt H0.size c now before chg bb.2 row comes layer rounds value place places made lq left gone bb.2 rfl) (cwV 0 hts gL_law_X12_thrown rfl rfl rfl (by decide +kernel) ⟨Nat.le_of_ble_eq_true rfl, Nat.le_of_ble_eq_true rfl⟩) rfl rfl rfl hl.1 rfl (Nat.le_of_ble_eq_true rfl) dL_law_2575 ⟨hc1, hs1⟩ (fun rr u H0 locs hw hP hD hS => ?_)
  replace hw := hw.symm; subst hw
  have hP : va_P G vwCl (((ao, zoc tt (zout Int32.toInt64 vo e)) :: wL tt a b d wd fa od hd qc qs bc bs tl rl H q' w' fr' tr g' re' fi' ro' im' r pk cz lh lp se md ff) ++ wM tt c now before chg bb.2 row comes layer rounds value place places made lq left gone) H0 := hP
  have hD : va_D (fun q : Nat => s.heap.size ≤ q) (((ao, zoc tt (zout Int32.toInt64 vo e)) :: wL tt a b d wd fa od hd qc qs bc bs tl rl H q' w' fr' tr g' re' fi' ro' im' r pk cz lh lp se md ff) ++ wM tt c now before chg bb.2 row comes layer rounds value place places made lq left gone) := hD
  refine lv_iload hx hb dL_law_2578 (lv_at hl 1 rfl) ?_
  refine lv_icmp_eq (tgt := 2585) hx hb dL_law_2580 (by decide) (fun _ => ?_) (fun h9 => absurd rfl h9)
  refine lv_iload hx hb dL_law_2585 (lv_at hl 1 rfl) ?_
  rcases hA with ⟨k9, hk9, ek, rfl⟩ | ⟨v9, ev, rfl⟩
  · refine lv_if_ne (tgt := 2602) hx hb dL_law_2587 (by decide) (fun _ => ?_) (fun h9 => absurd h9 (fun h => zcd_ne k9 h))
    refine lv_goto (tgt := 2784) hx hb dL_law_2602 (by decide) ?_
    refine z_widen (k := ce + 4) (n := sl + 24) (by omega) (by omega) ?_
    exact kk H0 locs ls ⟨wd, fa, od, hd, qc, qs, bc, bs, tl, rl, H, q', w', fr', tr, g', re', fi', ro', im', r, pk, cz, lh, lp, se, md, ff, now, before, chg, _, row, comes, layer, rounds, value, place, places, made, lq, left, gone, (zout Int32.toInt64 vo e), hI', hP, hD⟩ hS (lv_sub hl [2, 3, 4, 5, 6] rfl)
  · refine lv_if_ne (tgt := 2602) hx hb dL_law_2587 (by decide) (fun h9 => absurd rfl h9) (fun _ => ?_)
    refine lv_aload_n hx hb dL_law_2590 rfl (lv_at hl 5 rfl) ?_
    refine lv_iconst (v := (0 : Int32)) hx hb dL_law_2591 (by decide) ?_
    refine va_lald hx hb hK hP 0 1 rfl rfl (inB_vp (by decide)) dL_law_2592 ?_
    refine lv_iload hx hb dL_law_2593 (lv_at hl 0 rfl) ?_
    refine lv_i2l hx hb dL_law_2595 rfl ?_
    refine W.lcmp hx hb dL_law_2596 ?_
    refine lv_if_eq (tgt := 2602) hx hb dL_law_2597 (by decide) (fun _ => ?_) (fun h9 => absurd ((lg_cmp_eq _ _).mpr (by subst ev; exact (zout_at Int32.toInt64 vo v9))) h9)
    refine lv_goto (tgt := 2784) hx hb dL_law_2602 (by decide) ?_
    refine z_widen (k := ce + 4) (n := sl + 24) (by omega) (by omega) ?_
    exact kk H0 locs ls ⟨wd, fa, od, hd, qc, qs, bc, bs, tl, rl, H, q', w', fr', tr, g', re', fi', ro', im', r, pk, cz, lh, lp, se, md, ff, now, before, chg, _, row, comes, layer, rounds, value, place, places, made, lq, left, gone, (zout Int32.toInt64 vo e), hI', hP, hD⟩ hS (lv_sub hl [2, 3, 4, 5, 6] rfl)

set_option maxHeartbeats 4000000 in
set_option maxRecDepth 100000 in
theorem zarm_rounds (K : Nat) (hK9 : 1000000 < K) {p : Program} {l : Launch} {e0 : Env} {s : State} {m : MethodId} {below : List Frame} {meth : Method} {cd : Code} {sb L : Nat} {xs : Nat → Int32} {G : va_G} {tt : Nat → ClassId} {sa : Nat → Nat} (C : zCtx p l s m meth cd sb L xs G tt sa) (a : Nat → Nat) (b : Nat → Nat → Nat) (d : Nat → Nat → Nat → Nat) (c : Nat → Nat) (ao : Nat) {i : Nat} {iI : Int32} (hi : i + 7 ≤ L) (hiI : iI = nI i) {ce sl : Nat} (hce : ce ≤ 600000) (hsl : sl ≤ 7290000) {H0 : Heap} {locs : List Loc} (hw : zWorld G tt a b d c ao (fun q : Nat => s.heap.size ≤ q) H0) (hS : va_S (fun q : Nat => s.heap.size ≤ q) s.heap H0 locs) {ls : Array Slot} (hl : lv_has ls 9 [(0, .ref sb), (1, .ref (a 0)), (2, .ref (c 0)), (3, .ref ao), (4, .int iI)])
    (kk : ∀ (H1 : Heap) (locs1 : List Loc) (ls1 : Array Slot), zWorld G tt a b d c ao (fun q : Nat => s.heap.size ≤ q) H1 → va_S (fun q : Nat => s.heap.size ≤ q) s.heap H1 locs1 → lv_has ls1 9 [(0, .ref sb), (1, .ref (a 0)), (2, .ref (c 0)), (3, .ref ao), (4, .int iI)] → W p l e0 room_1 s m #[Value.ref sb] below meth cd H1 locs1 (ce + 4) (sl + 24) (lw_Z below #[Value.ref sb] s) (F0 m 2784 ls1 [])) :
    W p l e0 room_1 s m #[Value.ref sb] below meth cd H0 locs ce sl (lw_Z below #[Value.ref sb] s) (F0 m 2605 ls []) := by
  obtain ⟨wd, fa, od, hd, qc, qs, bc, bs, tl, rl, H, q, w, fr, tr, g, re, fi, ro, im, r, pk, cz, lh, lp, se, md, ff, now, before, chg, th, row, comes, layer, rounds, value, place, places, made, lq, left, gone, vo, hI, hP, hD⟩ := hw
  obtain ⟨hlt, hL, C0, hK, hN, hX, hNc⟩ := C
  obtain ⟨hx, hb, hr, hml, hown, hts0, hX9, hbl, hlocks, hgv⟩ := C0
  have hts : ∀ w ∈ wsL_law, w.before #[Value.ref sb] s = true := fun w h => hts0 w (zL_law w h)
  have hown : s.vm.findClass RL = some m.cls := hown
  have hA9 : ∀ q : Nat, s.heap.size ≤ q → (fun q : Nat => s.heap.size ≤ q) q := fun _ h => h
  have hbA : ¬ (fun q : Nat => s.heap.size ≤ q) sb := Nat.not_le.mpr hbl
  have hc0 : ce ≤ room_1.cells := by show ce ≤ 601024; omega
  have hs0 : sl ≤ room_1.slots := by show sl ≤ 7293034; omega
  have hc1 : ce + 0 ≤ room_1.cells := by show ce + 0 ≤ 601024; omega
  have hs1 : sl + 0 ≤ room_1.slots := by show sl + 0 ≤ 7293034; omega
  refine lv_aload_n hx hb dL_law_2605 rfl (lv_at hl 1 rfl) ?_
  obtain ⟨v, q', w', fr', g', re', fi', ro', e1, e2, hI'⟩ := zI_rounds K hK9 hI q fr th
  unfold zapg at e1
  have hP := zP_perm (List.perm_middle (a := (ao, zoc tt vo)) (l₁ := wL tt a b d wd fa od hd qc qs bc bs tl rl H q w fr tr g re fi ro im r pk cz lh lp se md ff) (l₂ := wM tt c now before chg th row comes layer rounds value place places made lq left gone)).symm hP
  have hD := zD_perm (List.perm_middle (a := (ao, zoc tt vo)) (l₁ := wL tt a b d wd fa od hd qc qs bc bs tl rl H q w fr tr g re fi ro im r pk cz lh lp se md ff) (l₂ := wM tt c now before chg th row comes layer rounds value place places made lq left gone)).symm hD
  refine z_callVi (wc := wL tt a b d wd fa od hd qc qs bc bs tl rl H q w fr tr g re fi ro im r pk cz lh lp se md ff) (wr := (ao, zoc tt vo) :: wM tt c now before chg th row comes layer rounds value place places made lq left gone) (As := []) (rest := []) (ci := 10) ⟨hx, hb, hml, hown, hts⟩ hK hN hP hD hS hA9 (nX11_rounds l G tt H0.size K a b d wd fa od hd qc qs bc bs tl rl H q w fr tr g re fi ro im r pk cz lh lp se md ff _ e1) (cwV 0 hts gL_law_X11_rounds rfl rfl rfl (by decide +kernel) ⟨Nat.le_of_ble_eq_true rfl, Nat.le_of_ble_eq_true rfl⟩) rfl rfl rfl hl.1 rfl (Nat.le_of_ble_eq_true rfl) dL_law_2606 ⟨hc0, hs0⟩ (fun rr u H0 locs hw hP hD hS => ?_)
  obtain ⟨hw1, hw2⟩ := hw
  replace hw1 := hw1.symm; subst hw1
  replace hw2 := hw2.symm; subst hw2
  have hP : va_P G vwCl ((ao, zoc tt vo) :: (wM tt c now before chg th row comes layer rounds value place places made lq left gone ++ wL tt a b d wd fa od hd qc qs bc bs tl rl H q' w' fr' tr g' re' fi' ro' 1 r pk cz lh lp se md ff)) H0 := hP
  have hD : va_D (fun q : Nat => s.heap.size ≤ q) ((ao, zoc tt vo) :: (wM tt c now before chg th row comes layer rounds value place places made lq left gone ++ wL tt a b d wd fa od hd qc qs bc bs tl rl H q' w' fr' tr g' re' fi' ro' 1 r pk cz lh lp se md ff)) := hD
  have hP := zP_perm (List.perm_middle (a := (ao, zoc tt vo)) (l₁ := wM tt c now before chg th row comes layer rounds value place places made lq left gone) (l₂ := wL tt a b d wd fa od hd qc qs bc bs tl rl H q' w' fr' tr g' re' fi' ro' 1 r pk cz lh lp se md ff)).symm hP
  have hD := zD_perm (List.perm_middle (a := (ao, zoc tt vo)) (l₁ := wM tt c now before chg th row comes layer rounds value place places made lq left gone) (l₂ := wL tt a b d wd fa od hd qc qs bc bs tl rl H q' w' fr' tr g' re' fi' ro' 1 r pk cz lh lp se md ff)).symm hD
  refine lv_aload_n hx hb dL_law_2609 rfl (lv_at hl 2 rfl) ?_
  refine z_callVi (wc := wM tt c now before chg th row comes layer rounds value place places made lq left gone) (wr := (ao, zoc tt vo) :: wL tt a b d wd fa od hd qc qs bc bs tl rl H q' w' fr' tr g' re' fi' ro' 1 r pk cz lh lp se md ff) (As := []) (rest := [.int v]) (ci := 11) ⟨hx, hb, hml, hown, hts⟩ hK hN hP hD hS hA9 (nX12_rounds l G tt H0.size c now before chg th row comes layer rounds value place places made lq left gone  _ e2) (cwV 0 hts gL_law_X12_rounds rfl rfl rfl (by decide +kernel) ⟨Nat.le_of_ble_eq_true rfl, Nat.le_of_ble_eq_true rfl⟩) rfl rfl rfl hl.1 rfl (Nat.le_of_ble_eq_true rfl) dL_law_2610 ⟨hc0, hs0⟩ (fun rr u H0 locs hw hP hD hS => ?_)
  obtain ⟨hw1, hw2⟩ := hw
  replace hw1 := hw1.symm; subst hw1
  replace hw2 := hw2.symm; subst hw2
  have hP : va_P G vwCl (((ao, zoc tt vo) :: wL tt a b d wd fa od hd qc qs bc bs tl rl H q' w' fr' tr g' re' fi' ro' 1 r pk cz lh lp se md ff) ++ wM tt c now before chg 0 row comes layer rounds value place places made lq left gone) H0 := hP
  have hD : va_D (fun q : Nat => s.heap.size ≤ q) (((ao, zoc tt vo) :: wL tt a b d wd fa od hd qc qs bc bs tl rl H q' w' fr' tr g' re' fi' ro' 1 r pk cz lh lp se md ff) ++ wM tt c now before chg 0 row comes layer rounds value place places made lq left gone) := hD
  refine lv_icmp_eq (tgt := 2784) hx hb dL_law_2613 (by decide) (fun _ => ?_) (fun h9 => absurd rfl h9)
  refine z_widen (k := ce + 4) (n := sl + 24) (by omega) (by omega) ?_
  refine z_widen (k := ce + 4) (n := sl + 24) (by omega) (by omega) ?_
  exact kk H0 locs ls ⟨wd, fa, od, hd, qc, qs, bc, bs, tl, rl, H, q', w', fr', tr, g', re', fi', ro', 1, r, pk, cz, lh, lp, se, md, ff, now, before, chg, 0, row, comes, layer, rounds, value, place, places, made, lq, left, gone, vo, hI', hP, hD⟩ hS (lv_sub hl [0, 1, 2, 3, 4] rfl)

set_option maxHeartbeats 4000000 in
set_option maxRecDepth 100000 in
theorem zarm_firings (K : Nat) (hK9 : 1000000 < K) {p : Program} {l : Launch} {e0 : Env} {s : State} {m : MethodId} {below : List Frame} {meth : Method} {cd : Code} {sb L : Nat} {xs : Nat → Int32} {G : va_G} {tt : Nat → ClassId} {sa : Nat → Nat} (C : zCtx p l s m meth cd sb L xs G tt sa) (a : Nat → Nat) (b : Nat → Nat → Nat) (d : Nat → Nat → Nat → Nat) (c : Nat → Nat) (ao : Nat) {i : Nat} {iI : Int32} (hi : i + 7 ≤ L) (hiI : iI = nI i) {ce sl : Nat} (hce : ce ≤ 600000) (hsl : sl ≤ 7290000) {H0 : Heap} {locs : List Loc} (hw : zWorld G tt a b d c ao (fun q : Nat => s.heap.size ≤ q) H0) (hS : va_S (fun q : Nat => s.heap.size ≤ q) s.heap H0 locs) {ls : Array Slot} (hl : lv_has ls 9 [(0, .ref sb), (1, .ref (a 0)), (2, .ref (c 0)), (3, .ref ao), (4, .int iI)])
    (kk : ∀ (H1 : Heap) (locs1 : List Loc) (ls1 : Array Slot), zWorld G tt a b d c ao (fun q : Nat => s.heap.size ≤ q) H1 → va_S (fun q : Nat => s.heap.size ≤ q) s.heap H1 locs1 → lv_has ls1 9 [(0, .ref sb), (1, .ref (a 0)), (2, .ref (c 0)), (3, .ref ao), (4, .int iI)] → W p l e0 room_1 s m #[Value.ref sb] below meth cd H1 locs1 (ce + 4) (sl + 24) (lw_Z below #[Value.ref sb] s) (F0 m 2784 ls1 [])) :
    W p l e0 room_1 s m #[Value.ref sb] below meth cd H0 locs ce sl (lw_Z below #[Value.ref sb] s) (F0 m 2618 ls []) := by
  obtain ⟨wd, fa, od, hd, qc, qs, bc, bs, tl, rl, H, q, w, fr, tr, g, re, fi, ro, im, r, pk, cz, lh, lp, se, md, ff, now, before, chg, th, row, comes, layer, rounds, value, place, places, made, lq, left, gone, vo, hI, hP, hD⟩ := hw
  obtain ⟨hlt, hL, C0, hK, hN, hX, hNc⟩ := C
  obtain ⟨hx, hb, hr, hml, hown, hts0, hX9, hbl, hlocks, hgv⟩ := C0
  have hts : ∀ w ∈ wsL_law, w.before #[Value.ref sb] s = true := fun w h => hts0 w (zL_law w h)
  have hown : s.vm.findClass RL = some m.cls := hown
  have hA9 : ∀ q : Nat, s.heap.size ≤ q → (fun q : Nat => s.heap.size ≤ q) q := fun _ h => h
  have hbA : ¬ (fun q : Nat => s.heap.size ≤ q) sb := Nat.not_le.mpr hbl
  have hc0 : ce ≤ room_1.cells := by show ce ≤ 601024; omega
  have hs0 : sl ≤ room_1.slots := by show sl ≤ 7293034; omega
  have hc1 : ce + 1 ≤ room_1.cells := by show ce + 1 ≤ 601024; omega
  have hs1 : sl + 6 ≤ room_1.slots := by show sl + 6 ≤ 7293034; omega
  refine lv_aload_n hx hb dL_law_2618 rfl (lv_at hl 1 rfl) ?_
  refine lv_aload_n hx hb dL_law_2619 rfl (lv_at hl 0 rfl) ?_
  refine lv_iload hx hb dL_law_2620 (lv_at hl 4 rfl) ?_
  refine lv_iconst (v := (1 : Int32)) hx hb dL_law_2622 (by decide) ?_
  refine lv_iadd hx hb dL_law_2623 ?_
  refine va_sld hx hb hX9 hbl hbA hS (zin_L hi hL hiI 1 (by decide) (1 : Int32) rfl) dL_law_2624 ?_
  refine lv_topi (fun x1 ex1 => ?_)
  refine lv_aload_n hx hb dL_law_2625 rfl (lv_at hl 3 rfl) ?_
  obtain ⟨e, bb, value', q', w', fr', g', re', fi', ro', im', e1, e2, hA, hI'⟩ := zI_firings K hK9 hI q fr x1 th
  unfold zapg at e1
  refine z_callW (wc := (ao, zoc tt vo) :: wL tt a b d wd fa od hd qc qs bc bs tl rl H q w fr tr g re fi ro im r pk cz lh lp se md ff) (wr := wM tt c now before chg th row comes layer rounds value place places made lq left gone) (As := [.ref (a 0), .int x1, .ref ao]) (rest := []) ⟨hx, hb, hml, hown, hts⟩ hK hN hX hNc hP hD hS hA9 (mL_firings l G tt sa hlt H0.size K a b d wd fa od hd qc qs bc bs tl rl H q w fr tr g re fi ro im r pk cz lh lp se md ff x1 ao vo _ e1 bb hA) (vx_cwSW 3 hts gL_law_L_firings rfl rfl rfl (by decide +kernel) ⟨Nat.le_of_ble_eq_true rfl, Nat.le_of_ble_eq_true rfl⟩) rfl hl.1 rfl (Nat.le_of_ble_eq_true rfl) dL_law_2626 ⟨hc1, hs1⟩ (fun rr u H0 locs hw hP hD hS => ?_)
  obtain ⟨hw1, hw2⟩ := hw
  replace hw1 := hw1.symm; subst hw1
  replace hw2 := hw2.symm; subst hw2
  have hP : va_P G vwCl (wM tt c now before chg th row comes layer rounds value place places made lq left gone ++ ((ao, zoc tt (zout Int32.toInt64 vo e)) :: wL tt a b d wd fa od hd qc qs bc bs tl rl H q' w' fr' tr g' re' fi' ro' im' r pk cz lh lp se md ff)) H0 := hP
  have hD : va_D (fun q : Nat => s.heap.size ≤ q) (wM tt c now before chg th row comes layer rounds value place places made lq left gone ++ ((ao, zoc tt (zout Int32.toInt64 vo e)) :: wL tt a b d wd fa od hd qc qs bc bs tl rl H q' w' fr' tr g' re' fi' ro' im' r pk cz lh lp se md ff)) := hD
  refine lv_istore (lv' := [(5, .int bb.2), (0, .ref sb), (1, .ref (a 0)), (2, .ref (c 0)), (3, .ref ao), (4, .int iI)]) hx hb dL_law_2629 hl (by decide) rfl (fun ls hl => ?_)
  refine lv_aload_n hx hb dL_law_2631 rfl (lv_at hl 3 rfl) ?_
  refine lv_aload_n hx hb dL_law_2632 rfl (lv_at hl 1 rfl) ?_
  refine lv_iload hx hb dL_law_2633 (lv_at hl 5 rfl) ?_
  refine lv_iconst (v := (1 : Int32)) hx hb dL_law_2635 (by decide) ?_
  refine lv_iadd hx hb dL_law_2636 ?_
  refine va_sld hx hb hX9 hbl hbA hS (zin_L hi hL hiI 1 (by decide) (1 : Int32) rfl) dL_law_2637 ?_
  refine lv_topi (fun x2 ex2 => ?_)
  obtain rfl : x2 = x1 := ex2.trans ex1.symm
  refine z_callVi (wc := wM tt c now before chg th row comes layer rounds value place places made lq left gone) (wr := (ao, zoc tt (zout Int32.toInt64 vo e)) :: wL tt a b d wd fa od hd qc qs bc bs tl rl H q' w' fr' tr g' re' fi' ro' im' r pk cz lh lp se md ff) (As := [.int x2]) (rest := []) (ci := 11) ⟨hx, hb, hml, hown, hts⟩ hK hN hP hD hS hA9 (nX12_firings l G tt H0.size K c now before chg th row comes layer rounds value place places made lq left gone x2 _ e2) (cwV 1 hts gL_law_X12_firings rfl rfl rfl (by decide +kernel) ⟨Nat.le_of_ble_eq_true rfl, Nat.le_of_ble_eq_true rfl⟩) rfl rfl rfl hl.1 rfl (Nat.le_of_ble_eq_true rfl) dL_law_2638 ⟨hc1, hs1⟩ (fun rr u H0 locs hw hP hD hS => ?_)
  obtain ⟨hw1, hw2⟩ := hw
  replace hw1 := hw1.symm; subst hw1
  replace hw2 := hw2.symm; subst hw2
  have hP : va_P G vwCl (((ao, zoc tt (zout Int32.toInt64 vo e)) :: wL tt a b d wd fa od hd qc qs bc bs tl rl H q' w' fr' tr g' re' fi' ro' im' r pk cz lh lp se md ff) ++ wM tt c now before chg bb.2 row comes layer rounds value' place places made lq left gone) H0 := hP
  have hD : va_D (fun q : Nat => s.heap.size ≤ q) (((ao, zoc tt (zout Int32.toInt64 vo e)) :: wL tt a b d wd fa od hd qc qs bc bs tl rl H q' w' fr' tr g' re' fi' ro' im' r pk cz lh lp se md ff) ++ wM tt c now before chg bb.2 row comes layer rounds value' place places made lq left gone) := hD
  refine lv_istore (lv' := [(6, .int bb.1), (5, .int bb.2), (0, .ref sb), (1, .ref (a 0)), (2, .ref (c 0)), (3, .ref ao), (4, .int iI)]) hx hb dL_law_2641 hl (by decide) rfl (fun ls hl => ?_)
  refine lv_aload_n hx hb dL_law_2643 rfl (lv_at hl 4 rfl) ?_
  have hP := zP_perm (List.perm_append_comm (l₁ := (ao, zoc tt (zout Int32.toInt64 vo e)) :: wL tt a b d wd fa od hd qc qs bc bs tl rl H q' w' fr' tr g' re' fi' ro' im' r pk cz lh lp se md ff) (l₂ := wM tt c now before chg bb.2 row comes layer rounds value' place places made lq left gone)) hP
  have hD := zD_perm (List.perm_append_comm (l₁ := (ao, zoc tt (zout Int32.toInt64 vo e)) :: wL tt a b d wd fa od hd qc qs bc bs tl rl H q' w' fr' tr g' re' fi' ro' im' r pk cz lh lp se md ff) (l₂ := wM tt c now before chg bb.2 row comes layer rounds value' place places made lq left gone)) hD
  refine z_callVi (wc := wM tt c now before chg bb.2 row comes layer rounds value' place places made lq left gone) (wr := (ao, zoc tt (zout Int32.toInt64 vo e)) :: wL tt a b d wd fa od hd qc qs bc bs tl rl H q' w' fr' tr g' re' fi' ro' im' r pk cz lh lp se md ff) (As := []) (rest := []) (ci := 11) ⟨hx, hb, hml, hown, hts⟩ hK hN hP hD hS hA9 (nX12_thrown l G tt H0.size c now before chg bb.2 row comes layer rounds value' place places made lq left gone bb.2 rfl) (cwV 0 hts gL_law_X12_thrown rfl rfl rfl (by decide +kernel) ⟨Nat.le_of_ble_eq_true rfl, Nat.le_of_ble_eq_true rfl⟩) rfl rfl rfl hl.1 rfl (Nat.le_of_ble_eq_true rfl) dL_law_2644 ⟨hc1, hs1⟩ (fun rr u H0 locs hw hP hD hS => ?_)
  replace hw := hw.symm; subst hw
  have hP : va_P G vwCl (((ao, zoc tt (zout Int32.toInt64 vo e)) :: wL tt a b d wd fa od hd qc qs bc bs tl rl H q' w' fr' tr g' re' fi' ro' im' r pk cz lh lp se md ff) ++ wM tt c now before chg bb.2 row comes layer rounds value' place places made lq left gone) H0 := hP
  have hD : va_D (fun q : Nat => s.heap.size ≤ q) (((ao, zoc tt (zout Int32.toInt64 vo e)) :: wL tt a b d wd fa od hd qc qs bc bs tl rl H q' w' fr' tr g' re' fi' ro' im' r pk cz lh lp se md ff) ++ wM tt c now before chg bb.2 row comes layer rounds value' place places made lq left gone) := hD
  refine lv_iload hx hb dL_law_2647 (lv_at hl 1 rfl) ?_
  refine lv_icmp_eq (tgt := 2654) hx hb dL_law_2649 (by decide) (fun _ => ?_) (fun h9 => absurd rfl h9)
  refine lv_iload hx hb dL_law_2654 (lv_at hl 1 rfl) ?_
  rcases hA with ⟨k9, hk9, ek, rfl⟩ | ⟨v9, ev, rfl⟩
  · refine lv_if_ne (tgt := 2671) hx hb dL_law_2656 (by decide) (fun _ => ?_) (fun h9 => absurd h9 (fun h => zcd_ne k9 h))
    refine lv_goto (tgt := 2784) hx hb dL_law_2671 (by decide) ?_
    refine z_widen (k := ce + 4) (n := sl + 24) (by omega) (by omega) ?_
    exact kk H0 locs ls ⟨wd, fa, od, hd, qc, qs, bc, bs, tl, rl, H, q', w', fr', tr, g', re', fi', ro', im', r, pk, cz, lh, lp, se, md, ff, now, before, chg, _, row, comes, layer, rounds, value', place, places, made, lq, left, gone, (zout Int32.toInt64 vo e), hI', hP, hD⟩ hS (lv_sub hl [2, 3, 4, 5, 6] rfl)
  · refine lv_if_ne (tgt := 2671) hx hb dL_law_2656 (by decide) (fun h9 => absurd rfl h9) (fun _ => ?_)
    refine lv_aload_n hx hb dL_law_2659 rfl (lv_at hl 5 rfl) ?_
    refine lv_iconst (v := (0 : Int32)) hx hb dL_law_2660 (by decide) ?_
    refine va_lald hx hb hK hP 0 1 rfl rfl (inB_vp (by decide)) dL_law_2661 ?_
    refine lv_iload hx hb dL_law_2662 (lv_at hl 0 rfl) ?_
    refine lv_i2l hx hb dL_law_2664 rfl ?_
    refine W.lcmp hx hb dL_law_2665 ?_
    refine lv_if_eq (tgt := 2671) hx hb dL_law_2666 (by decide) (fun _ => ?_) (fun h9 => absurd ((lg_cmp_eq _ _).mpr (by subst ev; exact (zout_at Int32.toInt64 vo v9))) h9)
    refine lv_goto (tgt := 2784) hx hb dL_law_2671 (by decide) ?_
    refine z_widen (k := ce + 4) (n := sl + 24) (by omega) (by omega) ?_
    exact kk H0 locs ls ⟨wd, fa, od, hd, qc, qs, bc, bs, tl, rl, H, q', w', fr', tr, g', re', fi', ro', im', r, pk, cz, lh, lp, se, md, ff, now, before, chg, _, row, comes, layer, rounds, value', place, places, made, lq, left, gone, (zout Int32.toInt64 vo e), hI', hP, hD⟩ hS (lv_sub hl [2, 3, 4, 5, 6] rfl)

set_option maxHeartbeats 4000000 in
set_option maxRecDepth 100000 in
theorem zarm_meanReasons (K : Nat) (hK9 : 1000000 < K) {p : Program} {l : Launch} {e0 : Env} {s : State} {m : MethodId} {below : List Frame} {meth : Method} {cd : Code} {sb L : Nat} {xs : Nat → Int32} {G : va_G} {tt : Nat → ClassId} {sa : Nat → Nat} (C : zCtx p l s m meth cd sb L xs G tt sa) (a : Nat → Nat) (b : Nat → Nat → Nat) (d : Nat → Nat → Nat → Nat) (c : Nat → Nat) (ao : Nat) {i : Nat} {iI : Int32} (hi : i + 7 ≤ L) (hiI : iI = nI i) {ce sl : Nat} (hce : ce ≤ 600000) (hsl : sl ≤ 7290000) {H0 : Heap} {locs : List Loc} (hw : zWorld G tt a b d c ao (fun q : Nat => s.heap.size ≤ q) H0) (hS : va_S (fun q : Nat => s.heap.size ≤ q) s.heap H0 locs) {ls : Array Slot} (hl : lv_has ls 9 [(0, .ref sb), (1, .ref (a 0)), (2, .ref (c 0)), (3, .ref ao), (4, .int iI)])
    (kk : ∀ (H1 : Heap) (locs1 : List Loc) (ls1 : Array Slot), zWorld G tt a b d c ao (fun q : Nat => s.heap.size ≤ q) H1 → va_S (fun q : Nat => s.heap.size ≤ q) s.heap H1 locs1 → lv_has ls1 9 [(0, .ref sb), (1, .ref (a 0)), (2, .ref (c 0)), (3, .ref ao), (4, .int iI)] → W p l e0 room_1 s m #[Value.ref sb] below meth cd H1 locs1 (ce + 4) (sl + 24) (lw_Z below #[Value.ref sb] s) (F0 m 2784 ls1 [])) :
    W p l e0 room_1 s m #[Value.ref sb] below meth cd H0 locs ce sl (lw_Z below #[Value.ref sb] s) (F0 m 2674 ls []) := by
  obtain ⟨wd, fa, od, hd, qc, qs, bc, bs, tl, rl, H, q, w, fr, tr, g, re, fi, ro, im, r, pk, cz, lh, lp, se, md, ff, now, before, chg, th, row, comes, layer, rounds, value, place, places, made, lq, left, gone, vo, hI, hP, hD⟩ := hw
  obtain ⟨hlt, hL, C0, hK, hN, hX, hNc⟩ := C
  obtain ⟨hx, hb, hr, hml, hown, hts0, hX9, hbl, hlocks, hgv⟩ := C0
  have hts : ∀ w ∈ wsL_law, w.before #[Value.ref sb] s = true := fun w h => hts0 w (zL_law w h)
  have hown : s.vm.findClass RL = some m.cls := hown
  have hA9 : ∀ q : Nat, s.heap.size ≤ q → (fun q : Nat => s.heap.size ≤ q) q := fun _ h => h
  have hbA : ¬ (fun q : Nat => s.heap.size ≤ q) sb := Nat.not_le.mpr hbl
  have hc0 : ce ≤ room_1.cells := by show ce ≤ 601024; omega
  have hs0 : sl ≤ room_1.slots := by show sl ≤ 7293034; omega
  have hc1 : ce + 0 ≤ room_1.cells := by show ce + 0 ≤ 601024; omega
  have hs1 : sl + 0 ≤ room_1.slots := by show sl + 0 ≤ 7293034; omega
  refine lv_aload_n hx hb dL_law_2674 rfl (lv_at hl 1 rfl) ?_
  obtain ⟨v, value', q', w', fr', g', re', fi', ro', e1, e2, hI'⟩ := zI_meanReasons K hK9 hI q fr th
  unfold zapg at e1
  have hP := zP_perm (List.perm_middle (a := (ao, zoc tt vo)) (l₁ := wL tt a b d wd fa od hd qc qs bc bs tl rl H q w fr tr g re fi ro im r pk cz lh lp se md ff) (l₂ := wM tt c now before chg th row comes layer rounds value place places made lq left gone)).symm hP
  have hD := zD_perm (List.perm_middle (a := (ao, zoc tt vo)) (l₁ := wL tt a b d wd fa od hd qc qs bc bs tl rl H q w fr tr g re fi ro im r pk cz lh lp se md ff) (l₂ := wM tt c now before chg th row comes layer rounds value place places made lq left gone)).symm hD
  refine z_callVd (wc := wL tt a b d wd fa od hd qc qs bc bs tl rl H q w fr tr g re fi ro im r pk cz lh lp se md ff) (wr := (ao, zoc tt vo) :: wM tt c now before chg th row comes layer rounds value place places made lq left gone) (As := []) (rest := []) (ci := 10) ⟨hx, hb, hml, hown, hts⟩ hK hN hP hD hS hA9 (nX11_meanReasons l G tt H0.size K a b d wd fa od hd qc qs bc bs tl rl H q w fr tr g re fi ro im r pk cz lh lp se md ff _ e1) (cwV 0 hts gL_law_X11_meanReasons rfl rfl rfl (by decide +kernel) ⟨Nat.le_of_ble_eq_true rfl, Nat.le_of_ble_eq_true rfl⟩) rfl rfl rfl hl.1 rfl (Nat.le_of_ble_eq_true rfl) dL_law_2675 ⟨hc0, hs0⟩ (fun rr u H0 locs hw hP hD hS => ?_)
  obtain ⟨hw1, hw2⟩ := hw
  replace hw1 := hw1.symm; subst hw1
  replace hw2 := hw2.symm; subst hw2
  have hP : va_P G vwCl ((ao, zoc tt vo) :: (wM tt c now before chg th row comes layer rounds value place places made lq left gone ++ wL tt a b d wd fa od hd qc qs bc bs tl rl H q' w' fr' tr g' re' fi' ro' 1 r pk cz lh lp se md ff)) H0 := hP
  have hD : va_D (fun q : Nat => s.heap.size ≤ q) ((ao, zoc tt vo) :: (wM tt c now before chg th row comes layer rounds value place places made lq left gone ++ wL tt a b d wd fa od hd qc qs bc bs tl rl H q' w' fr' tr g' re' fi' ro' 1 r pk cz lh lp se md ff)) := hD
  have hP := zP_perm (List.perm_middle (a := (ao, zoc tt vo)) (l₁ := wM tt c now before chg th row comes layer rounds value place places made lq left gone) (l₂ := wL tt a b d wd fa od hd qc qs bc bs tl rl H q' w' fr' tr g' re' fi' ro' 1 r pk cz lh lp se md ff)).symm hP
  have hD := zD_perm (List.perm_middle (a := (ao, zoc tt vo)) (l₁ := wM tt c now before chg th row comes layer rounds value place places made lq left gone) (l₂ := wL tt a b d wd fa od hd qc qs bc bs tl rl H q' w' fr' tr g' re' fi' ro' 1 r pk cz lh lp se md ff)).symm hD
  refine lv_dstore (lv' := [(5, .double v), (0, .ref sb), (1, .ref (a 0)), (2, .ref (c 0)), (3, .ref ao), (4, .int iI)]) hx hb dL_law_2678 hl (by decide) rfl (fun ls hl => ?_)
  refine lv_aload_n hx hb dL_law_2680 rfl (lv_at hl 3 rfl) ?_
  refine z_callVd (wc := wM tt c now before chg th row comes layer rounds value place places made lq left gone) (wr := (ao, zoc tt vo) :: wL tt a b d wd fa od hd qc qs bc bs tl rl H q' w' fr' tr g' re' fi' ro' 1 r pk cz lh lp se md ff) (As := []) (rest := []) (ci := 11) ⟨hx, hb, hml, hown, hts⟩ hK hN hP hD hS hA9 (nX12_meanReasons l G tt H0.size K c now before chg th row comes layer rounds value place places made lq left gone  _ e2) (cwV 0 hts gL_law_X12_meanReasons rfl rfl rfl (by decide +kernel) ⟨Nat.le_of_ble_eq_true rfl, Nat.le_of_ble_eq_true rfl⟩) rfl rfl rfl hl.1 rfl (Nat.le_of_ble_eq_true rfl) dL_law_2681 ⟨hc0, hs0⟩ (fun rr u H0 locs hw hP hD hS => ?_)
  obtain ⟨hw1, hw2⟩ := hw
  replace hw1 := hw1.symm; subst hw1
  replace hw2 := hw2.symm; subst hw2
  have hP : va_P G vwCl (((ao, zoc tt vo) :: wL tt a b d wd fa od hd qc qs bc bs tl rl H q' w' fr' tr g' re' fi' ro' 1 r pk cz lh lp se md ff) ++ wM tt c now before chg 0 row comes layer rounds value' place places made lq left gone) H0 := hP
  have hD : va_D (fun q : Nat => s.heap.size ≤ q) (((ao, zoc tt vo) :: wL tt a b d wd fa od hd qc qs bc bs tl rl H q' w' fr' tr g' re' fi' ro' 1 r pk cz lh lp se md ff) ++ wM tt c now before chg 0 row comes layer rounds value' place places made lq left gone) := hD
  refine lv_dstore (lv' := [(7, .double v), (5, .double v), (0, .ref sb), (1, .ref (a 0)), (2, .ref (c 0)), (3, .ref ao), (4, .int iI)]) hx hb dL_law_2684 hl (by decide) rfl (fun ls hl => ?_)
  refine z_widen (k := ce + 4) (n := sl + 24) (by omega) (by omega) ?_
  refine lv_dload hx hb dL_law_2686 (lv_at hl 1 rfl) ?_
  refine lv_dload hx hb dL_law_2688 (lv_at hl 0 rfl) ?_
  refine lv_dcmp hx hb dL_law_2690 ?_
  refine lv_if_eq (tgt := 2712) hx hb dL_law_2691 (by decide) (fun _ => ?_) (fun h9 => ?_)
  · refine lv_goto (tgt := 2784) hx hb dL_law_2712 (by decide) ?_
    refine z_widen (k := ce + 4) (n := sl + 24) (by omega) (by omega) ?_
    exact kk H0 locs ls ⟨wd, fa, od, hd, qc, qs, bc, bs, tl, rl, H, q', w', fr', tr, g', re', fi', ro', 1, r, pk, cz, lh, lp, se, md, ff, now, before, chg, 0, row, comes, layer, rounds, value', place, places, made, lq, left, gone, vo, hI', hP, hD⟩ hS (lv_sub hl [2, 3, 4, 5, 6] rfl)
  · refine lv_dload hx hb dL_law_2694 (lv_at hl 1 rfl) ?_
    refine lv_dload hx hb dL_law_2696 (lv_at hl 1 rfl) ?_
    refine lv_dcmp hx hb dL_law_2698 ?_
    refine lv_if_eq (tgt := 2710) hx hb dL_law_2699 (by decide) (fun h8 => absurd h8 h9) (fun _ => ?_)
    refine lv_dload hx hb dL_law_2702 (lv_at hl 0 rfl) ?_
    refine lv_dload hx hb dL_law_2704 (lv_at hl 0 rfl) ?_
    refine lv_dcmp hx hb dL_law_2706 ?_
    refine lv_if_ne (tgt := 2712) hx hb dL_law_2707 (by decide) (fun _ => ?_) (fun h8 => absurd h8 h9)
    refine lv_goto (tgt := 2784) hx hb dL_law_2712 (by decide) ?_
    refine z_widen (k := ce + 4) (n := sl + 24) (by omega) (by omega) ?_
    exact kk H0 locs ls ⟨wd, fa, od, hd, qc, qs, bc, bs, tl, rl, H, q', w', fr', tr, g', re', fi', ro', 1, r, pk, cz, lh, lp, se, md, ff, now, before, chg, 0, row, comes, layer, rounds, value', place, places, made, lq, left, gone, vo, hI', hP, hD⟩ hS (lv_sub hl [2, 3, 4, 5, 6] rfl)

set_option maxHeartbeats 4000000 in
set_option maxRecDepth 100000 in
theorem zarm_factShare (K : Nat) (hK9 : 1000000 < K) {p : Program} {l : Launch} {e0 : Env} {s : State} {m : MethodId} {below : List Frame} {meth : Method} {cd : Code} {sb L : Nat} {xs : Nat → Int32} {G : va_G} {tt : Nat → ClassId} {sa : Nat → Nat} (C : zCtx p l s m meth cd sb L xs G tt sa) (a : Nat → Nat) (b : Nat → Nat → Nat) (d : Nat → Nat → Nat → Nat) (c : Nat → Nat) (ao : Nat) {i : Nat} {iI : Int32} (hi : i + 7 ≤ L) (hiI : iI = nI i) {ce sl : Nat} (hce : ce ≤ 600000) (hsl : sl ≤ 7290000) {H0 : Heap} {locs : List Loc} (hw : zWorld G tt a b d c ao (fun q : Nat => s.heap.size ≤ q) H0) (hS : va_S (fun q : Nat => s.heap.size ≤ q) s.heap H0 locs) {ls : Array Slot} (hl : lv_has ls 9 [(0, .ref sb), (1, .ref (a 0)), (2, .ref (c 0)), (3, .ref ao), (4, .int iI)])
    (kk : ∀ (H1 : Heap) (locs1 : List Loc) (ls1 : Array Slot), zWorld G tt a b d c ao (fun q : Nat => s.heap.size ≤ q) H1 → va_S (fun q : Nat => s.heap.size ≤ q) s.heap H1 locs1 → lv_has ls1 9 [(0, .ref sb), (1, .ref (a 0)), (2, .ref (c 0)), (3, .ref ao), (4, .int iI)] → W p l e0 room_1 s m #[Value.ref sb] below meth cd H1 locs1 (ce + 4) (sl + 24) (lw_Z below #[Value.ref sb] s) (F0 m 2784 ls1 [])) :
    W p l e0 room_1 s m #[Value.ref sb] below meth cd H0 locs ce sl (lw_Z below #[Value.ref sb] s) (F0 m 2715 ls []) := by
  obtain ⟨wd, fa, od, hd, qc, qs, bc, bs, tl, rl, H, q, w, fr, tr, g, re, fi, ro, im, r, pk, cz, lh, lp, se, md, ff, now, before, chg, th, row, comes, layer, rounds, value, place, places, made, lq, left, gone, vo, hI, hP, hD⟩ := hw
  obtain ⟨hlt, hL, C0, hK, hN, hX, hNc⟩ := C
  obtain ⟨hx, hb, hr, hml, hown, hts0, hX9, hbl, hlocks, hgv⟩ := C0
  have hts : ∀ w ∈ wsL_law, w.before #[Value.ref sb] s = true := fun w h => hts0 w (zL_law w h)
  have hown : s.vm.findClass RL = some m.cls := hown
  have hA9 : ∀ q : Nat, s.heap.size ≤ q → (fun q : Nat => s.heap.size ≤ q) q := fun _ h => h
  have hbA : ¬ (fun q : Nat => s.heap.size ≤ q) sb := Nat.not_le.mpr hbl
  have hc0 : ce ≤ room_1.cells := by show ce ≤ 601024; omega
  have hs0 : sl ≤ room_1.slots := by show sl ≤ 7293034; omega
  have hc1 : ce + 0 ≤ room_1.cells := by show ce + 0 ≤ 601024; omega
  have hs1 : sl + 0 ≤ room_1.slots := by show sl + 0 ≤ 7293034; omega
  refine lv_aload_n hx hb dL_law_2715 rfl (lv_at hl 1 rfl) ?_
  obtain ⟨v, q', w', fr', g', re', fi', ro', e1, e2, hI'⟩ := zI_factShare K hK9 hI q fr th
  unfold zapg at e1
  have hP := zP_perm (List.perm_middle (a := (ao, zoc tt vo)) (l₁ := wL tt a b d wd fa od hd qc qs bc bs tl rl H q w fr tr g re fi ro im r pk cz lh lp se md ff) (l₂ := wM tt c now before chg th row comes layer rounds value place places made lq left gone)).symm hP
  have hD := zD_perm (List.perm_middle (a := (ao, zoc tt vo)) (l₁ := wL tt a b d wd fa od hd qc qs bc bs tl rl H q w fr tr g re fi ro im r pk cz lh lp se md ff) (l₂ := wM tt c now before chg th row comes layer rounds value place places made lq left gone)).symm hD
  refine z_callVf (wc := wL tt a b d wd fa od hd qc qs bc bs tl rl H q w fr tr g re fi ro im r pk cz lh lp se md ff) (wr := (ao, zoc tt vo) :: wM tt c now before chg th row comes layer rounds value place places made lq left gone) (As := []) (rest := []) (ci := 10) ⟨hx, hb, hml, hown, hts⟩ hK hN hP hD hS hA9 (nX11_factShare l G tt H0.size K a b d wd fa od hd qc qs bc bs tl rl H q w fr tr g re fi ro im r pk cz lh lp se md ff _ e1) (cwV 0 hts gL_law_X11_factShare rfl rfl rfl (by decide +kernel) ⟨Nat.le_of_ble_eq_true rfl, Nat.le_of_ble_eq_true rfl⟩) rfl rfl rfl hl.1 rfl (Nat.le_of_ble_eq_true rfl) dL_law_2716 ⟨hc0, hs0⟩ (fun rr u H0 locs hw hP hD hS => ?_)
  obtain ⟨hw1, hw2⟩ := hw
  replace hw1 := hw1.symm; subst hw1
  replace hw2 := hw2.symm; subst hw2
  have hP : va_P G vwCl ((ao, zoc tt vo) :: (wM tt c now before chg th row comes layer rounds value place places made lq left gone ++ wL tt a b d wd fa od hd qc qs bc bs tl rl H q' w' fr' tr g' re' fi' ro' 1 r pk cz lh lp se md ff)) H0 := hP
  have hD : va_D (fun q : Nat => s.heap.size ≤ q) ((ao, zoc tt vo) :: (wM tt c now before chg th row comes layer rounds value place places made lq left gone ++ wL tt a b d wd fa od hd qc qs bc bs tl rl H q' w' fr' tr g' re' fi' ro' 1 r pk cz lh lp se md ff)) := hD
  have hP := zP_perm (List.perm_middle (a := (ao, zoc tt vo)) (l₁ := wM tt c now before chg th row comes layer rounds value place places made lq left gone) (l₂ := wL tt a b d wd fa od hd qc qs bc bs tl rl H q' w' fr' tr g' re' fi' ro' 1 r pk cz lh lp se md ff)).symm hP
  have hD := zD_perm (List.perm_middle (a := (ao, zoc tt vo)) (l₁ := wM tt c now before chg th row comes layer rounds value place places made lq left gone) (l₂ := wL tt a b d wd fa od hd qc qs bc bs tl rl H q' w' fr' tr g' re' fi' ro' 1 r pk cz lh lp se md ff)).symm hD
  have hnum : vf_n64 (FP.f2d v) := zf2d_num (zfs_num K now row K _ _ _ _ _ _ e2)
  refine lv_f2d hx hb dL_law_2719 hnum ?_
  refine lv_dstore (lv' := [(5, .double (FP.f2d v)), (0, .ref sb), (1, .ref (a 0)), (2, .ref (c 0)), (3, .ref ao), (4, .int iI)]) hx hb dL_law_2720 hl (by decide) rfl (fun ls hl => ?_)
  refine lv_aload_n hx hb dL_law_2722 rfl (lv_at hl 3 rfl) ?_
  refine z_callVf (wc := wM tt c now before chg th row comes layer rounds value place places made lq left gone) (wr := (ao, zoc tt vo) :: wL tt a b d wd fa od hd qc qs bc bs tl rl H q' w' fr' tr g' re' fi' ro' 1 r pk cz lh lp se md ff) (As := []) (rest := []) (ci := 11) ⟨hx, hb, hml, hown, hts⟩ hK hN hP hD hS hA9 (nX12_factShare l G tt H0.size K c now before chg th row comes layer rounds value place places made lq left gone  _ e2) (cwV 0 hts gL_law_X12_factShare rfl rfl rfl (by decide +kernel) ⟨Nat.le_of_ble_eq_true rfl, Nat.le_of_ble_eq_true rfl⟩) rfl rfl rfl hl.1 rfl (Nat.le_of_ble_eq_true rfl) dL_law_2723 ⟨hc0, hs0⟩ (fun rr u H0 locs hw hP hD hS => ?_)
  obtain ⟨hw1, hw2⟩ := hw
  replace hw1 := hw1.symm; subst hw1
  replace hw2 := hw2.symm; subst hw2
  have hP : va_P G vwCl (((ao, zoc tt vo) :: wL tt a b d wd fa od hd qc qs bc bs tl rl H q' w' fr' tr g' re' fi' ro' 1 r pk cz lh lp se md ff) ++ wM tt c now before chg 0 row comes layer rounds value place places made lq left gone) H0 := hP
  have hD : va_D (fun q : Nat => s.heap.size ≤ q) (((ao, zoc tt vo) :: wL tt a b d wd fa od hd qc qs bc bs tl rl H q' w' fr' tr g' re' fi' ro' 1 r pk cz lh lp se md ff) ++ wM tt c now before chg 0 row comes layer rounds value place places made lq left gone) := hD
  refine lv_f2d hx hb dL_law_2726 hnum ?_
  refine lv_dstore (lv' := [(7, .double (FP.f2d v)), (5, .double (FP.f2d v)), (0, .ref sb), (1, .ref (a 0)), (2, .ref (c 0)), (3, .ref ao), (4, .int iI)]) hx hb dL_law_2727 hl (by decide) rfl (fun ls hl => ?_)
  refine z_widen (k := ce + 4) (n := sl + 24) (by omega) (by omega) ?_
  refine lv_dload hx hb dL_law_2729 (lv_at hl 1 rfl) ?_
  refine lv_dload hx hb dL_law_2731 (lv_at hl 0 rfl) ?_
  refine lv_dcmp hx hb dL_law_2733 ?_
  refine lv_if_eq (tgt := 2755) hx hb dL_law_2734 (by decide) (fun _ => ?_) (fun h9 => ?_)
  · refine lv_goto (tgt := 2784) hx hb dL_law_2755 (by decide) ?_
    refine z_widen (k := ce + 4) (n := sl + 24) (by omega) (by omega) ?_
    exact kk H0 locs ls ⟨wd, fa, od, hd, qc, qs, bc, bs, tl, rl, H, q', w', fr', tr, g', re', fi', ro', 1, r, pk, cz, lh, lp, se, md, ff, now, before, chg, 0, row, comes, layer, rounds, value, place, places, made, lq, left, gone, vo, hI', hP, hD⟩ hS (lv_sub hl [2, 3, 4, 5, 6] rfl)
  · refine lv_dload hx hb dL_law_2737 (lv_at hl 1 rfl) ?_
    refine lv_dload hx hb dL_law_2739 (lv_at hl 1 rfl) ?_
    refine lv_dcmp hx hb dL_law_2741 ?_
    refine lv_if_eq (tgt := 2753) hx hb dL_law_2742 (by decide) (fun h8 => absurd h8 h9) (fun _ => ?_)
    refine lv_dload hx hb dL_law_2745 (lv_at hl 0 rfl) ?_
    refine lv_dload hx hb dL_law_2747 (lv_at hl 0 rfl) ?_
    refine lv_dcmp hx hb dL_law_2749 ?_
    refine lv_if_ne (tgt := 2755) hx hb dL_law_2750 (by decide) (fun _ => ?_) (fun h8 => absurd h8 h9)
    refine lv_goto (tgt := 2784) hx hb dL_law_2755 (by decide) ?_
    refine z_widen (k := ce + 4) (n := sl + 24) (by omega) (by omega) ?_
    exact kk H0 locs ls ⟨wd, fa, od, hd, qc, qs, bc, bs, tl, rl, H, q', w', fr', tr, g', re', fi', ro', 1, r, pk, cz, lh, lp, se, md, ff, now, before, chg, 0, row, comes, layer, rounds, value, place, places, made, lq, left, gone, vo, hI', hP, hD⟩ hS (lv_sub hl [2, 3, 4, 5, 6] rfl)

set_option maxHeartbeats 4000000 in
set_option maxRecDepth 100000 in
theorem zarm_errors (K : Nat) (hK9 : 1000000 < K) {p : Program} {l : Launch} {e0 : Env} {s : State} {m : MethodId} {below : List Frame} {meth : Method} {cd : Code} {sb L : Nat} {xs : Nat → Int32} {G : va_G} {tt : Nat → ClassId} {sa : Nat → Nat} (C : zCtx p l s m meth cd sb L xs G tt sa) (a : Nat → Nat) (b : Nat → Nat → Nat) (d : Nat → Nat → Nat → Nat) (c : Nat → Nat) (ao : Nat) {i : Nat} {iI : Int32} (hi : i + 7 ≤ L) (hiI : iI = nI i) {ce sl : Nat} (hce : ce ≤ 600000) (hsl : sl ≤ 7290000) {H0 : Heap} {locs : List Loc} (hw : zWorld G tt a b d c ao (fun q : Nat => s.heap.size ≤ q) H0) (hS : va_S (fun q : Nat => s.heap.size ≤ q) s.heap H0 locs) {ls : Array Slot} (hl : lv_has ls 9 [(0, .ref sb), (1, .ref (a 0)), (2, .ref (c 0)), (3, .ref ao), (4, .int iI)])
    (kk : ∀ (H1 : Heap) (locs1 : List Loc) (ls1 : Array Slot), zWorld G tt a b d c ao (fun q : Nat => s.heap.size ≤ q) H1 → va_S (fun q : Nat => s.heap.size ≤ q) s.heap H1 locs1 → lv_has ls1 9 [(0, .ref sb), (1, .ref (a 0)), (2, .ref (c 0)), (3, .ref ao), (4, .int iI)] → W p l e0 room_1 s m #[Value.ref sb] below meth cd H1 locs1 (ce + 4) (sl + 24) (lw_Z below #[Value.ref sb] s) (F0 m 2784 ls1 [])) :
    W p l e0 room_1 s m #[Value.ref sb] below meth cd H0 locs ce sl (lw_Z below #[Value.ref sb] s) (F0 m 2758 ls []) := by
  obtain ⟨wd, fa, od, hd, qc, qs, bc, bs, tl, rl, H, q, w, fr, tr, g, re, fi, ro, im, r, pk, cz, lh, lp, se, md, ff, now, before, chg, th, row, comes, layer, rounds, value, place, places, made, lq, left, gone, vo, hI, hP, hD⟩ := hw
  obtain ⟨hlt, hL, C0, hK, hN, hX, hNc⟩ := C
  obtain ⟨hx, hb, hr, hml, hown, hts0, hX9, hbl, hlocks, hgv⟩ := C0
  have hts : ∀ w ∈ wsL_law, w.before #[Value.ref sb] s = true := fun w h => hts0 w (zL_law w h)
  have hown : s.vm.findClass RL = some m.cls := hown
  have hA9 : ∀ q : Nat, s.heap.size ≤ q → (fun q : Nat => s.heap.size ≤ q) q := fun _ h => h
  have hbA : ¬ (fun q : Nat => s.heap.size ≤ q) sb := Nat.not_le.mpr hbl
  have hc0 : ce ≤ room_1.cells := by show ce ≤ 601024; omega
  have hs0 : sl ≤ room_1.slots := by show sl ≤ 7293034; omega
  have hc1 : ce + 0 ≤ room_1.cells := by show ce + 0 ≤ 601024; omega
  have hs1 : sl + 0 ≤ room_1.slots := by show sl + 0 ≤ 7293034; omega
  refine lv_aload_n hx hb dL_law_2758 rfl (lv_at hl 1 rfl) ?_
  obtain ⟨v, q', w', fr', g', re', fi', ro', r', ff', value', e1, e2, hI'⟩ := zI_errors K hK9 hI q fr th
  unfold zapr zapg at e1
  have hP := zP_perm (List.perm_middle (a := (ao, zoc tt vo)) (l₁ := wL tt a b d wd fa od hd qc qs bc bs tl rl H q w fr tr g re fi ro im r pk cz lh lp se md ff) (l₂ := wM tt c now before chg th row comes layer rounds value place places made lq left gone)).symm hP
  have hD := zD_perm (List.perm_middle (a := (ao, zoc tt vo)) (l₁ := wL tt a b d wd fa od hd qc qs bc bs tl rl H q w fr tr g re fi ro im r pk cz lh lp se md ff) (l₂ := wM tt c now before chg th row comes layer rounds value place places made lq left gone)).symm hD
  refine z_callVi (wc := wL tt a b d wd fa od hd qc qs bc bs tl rl H q w fr tr g re fi ro im r pk cz lh lp se md ff) (wr := (ao, zoc tt vo) :: wM tt c now before chg th row comes layer rounds value place places made lq left gone) (As := []) (rest := []) (ci := 10) ⟨hx, hb, hml, hown, hts⟩ hK hN hP hD hS hA9 (nX11_errors l G tt H0.size K a b d wd fa od hd qc qs bc bs tl rl H q w fr tr g re fi ro im r pk cz lh lp se md ff _ e1) (cwV 0 hts gL_law_X11_errors rfl rfl rfl (by decide +kernel) ⟨Nat.le_of_ble_eq_true rfl, Nat.le_of_ble_eq_true rfl⟩) rfl rfl rfl hl.1 rfl (Nat.le_of_ble_eq_true rfl) dL_law_2759 ⟨hc0, hs0⟩ (fun rr u H0 locs hw hP hD hS => ?_)
  obtain ⟨hw1, hw2⟩ := hw
  replace hw1 := hw1.symm; subst hw1
  replace hw2 := hw2.symm; subst hw2
  have hP : va_P G vwCl ((ao, zoc tt vo) :: (wM tt c now before chg th row comes layer rounds value place places made lq left gone ++ wL tt a b d wd fa od hd qc qs bc bs tl rl H q' w' fr' tr g' re' fi' ro' 1 r' pk cz lh lp se md ff')) H0 := hP
  have hD : va_D (fun q : Nat => s.heap.size ≤ q) ((ao, zoc tt vo) :: (wM tt c now before chg th row comes layer rounds value place places made lq left gone ++ wL tt a b d wd fa od hd qc qs bc bs tl rl H q' w' fr' tr g' re' fi' ro' 1 r' pk cz lh lp se md ff')) := hD
  have hP := zP_perm (List.perm_middle (a := (ao, zoc tt vo)) (l₁ := wM tt c now before chg th row comes layer rounds value place places made lq left gone) (l₂ := wL tt a b d wd fa od hd qc qs bc bs tl rl H q' w' fr' tr g' re' fi' ro' 1 r' pk cz lh lp se md ff')).symm hP
  have hD := zD_perm (List.perm_middle (a := (ao, zoc tt vo)) (l₁ := wM tt c now before chg th row comes layer rounds value place places made lq left gone) (l₂ := wL tt a b d wd fa od hd qc qs bc bs tl rl H q' w' fr' tr g' re' fi' ro' 1 r' pk cz lh lp se md ff')).symm hD
  refine lv_aload_n hx hb dL_law_2762 rfl (lv_at hl 2 rfl) ?_
  refine z_callVi (wc := wM tt c now before chg th row comes layer rounds value place places made lq left gone) (wr := (ao, zoc tt vo) :: wL tt a b d wd fa od hd qc qs bc bs tl rl H q' w' fr' tr g' re' fi' ro' 1 r' pk cz lh lp se md ff') (As := []) (rest := [.int v]) (ci := 11) ⟨hx, hb, hml, hown, hts⟩ hK hN hP hD hS hA9 (nX12_errors l G tt H0.size K c now before chg th row comes layer rounds value place places made lq left gone  _ e2) (cwV 0 hts gL_law_X12_errors rfl rfl rfl (by decide +kernel) ⟨Nat.le_of_ble_eq_true rfl, Nat.le_of_ble_eq_true rfl⟩) rfl rfl rfl hl.1 rfl (Nat.le_of_ble_eq_true rfl) dL_law_2763 ⟨hc0, hs0⟩ (fun rr u H0 locs hw hP hD hS => ?_)
  obtain ⟨hw1, hw2⟩ := hw
  replace hw1 := hw1.symm; subst hw1
  replace hw2 := hw2.symm; subst hw2
  have hP : va_P G vwCl (((ao, zoc tt vo) :: wL tt a b d wd fa od hd qc qs bc bs tl rl H q' w' fr' tr g' re' fi' ro' 1 r' pk cz lh lp se md ff') ++ wM tt c now before chg 0 row comes layer rounds value' place places made lq left gone) H0 := hP
  have hD : va_D (fun q : Nat => s.heap.size ≤ q) (((ao, zoc tt vo) :: wL tt a b d wd fa od hd qc qs bc bs tl rl H q' w' fr' tr g' re' fi' ro' 1 r' pk cz lh lp se md ff') ++ wM tt c now before chg 0 row comes layer rounds value' place places made lq left gone) := hD
  refine lv_icmp_eq (tgt := 2784) hx hb dL_law_2766 (by decide) (fun _ => ?_) (fun h9 => absurd rfl h9)
  refine z_widen (k := ce + 4) (n := sl + 24) (by omega) (by omega) ?_
  refine z_widen (k := ce + 4) (n := sl + 24) (by omega) (by omega) ?_
  exact kk H0 locs ls ⟨wd, fa, od, hd, qc, qs, bc, bs, tl, rl, H, q', w', fr', tr, g', re', fi', ro', 1, r', pk, cz, lh, lp, se, md, ff', now, before, chg, 0, row, comes, layer, rounds, value', place, places, made, lq, left, gone, vo, hI', hP, hD⟩ hS (lv_sub hl [0, 1, 2, 3, 4] rfl)

set_option maxHeartbeats 4000000 in
set_option maxRecDepth 100000 in
theorem zarm_checksum (K : Nat) (hK9 : 1000000 < K) {p : Program} {l : Launch} {e0 : Env} {s : State} {m : MethodId} {below : List Frame} {meth : Method} {cd : Code} {sb L : Nat} {xs : Nat → Int32} {G : va_G} {tt : Nat → ClassId} {sa : Nat → Nat} (C : zCtx p l s m meth cd sb L xs G tt sa) (a : Nat → Nat) (b : Nat → Nat → Nat) (d : Nat → Nat → Nat → Nat) (c : Nat → Nat) (ao : Nat) {i : Nat} {iI : Int32} (hi : i + 7 ≤ L) (hiI : iI = nI i) {ce sl : Nat} (hce : ce ≤ 600000) (hsl : sl ≤ 7290000) {H0 : Heap} {locs : List Loc} (hw : zWorld G tt a b d c ao (fun q : Nat => s.heap.size ≤ q) H0) (hS : va_S (fun q : Nat => s.heap.size ≤ q) s.heap H0 locs) {ls : Array Slot} (hl : lv_has ls 9 [(0, .ref sb), (1, .ref (a 0)), (2, .ref (c 0)), (3, .ref ao), (4, .int iI)])
    (kk : ∀ (H1 : Heap) (locs1 : List Loc) (ls1 : Array Slot), zWorld G tt a b d c ao (fun q : Nat => s.heap.size ≤ q) H1 → va_S (fun q : Nat => s.heap.size ≤ q) s.heap H1 locs1 → lv_has ls1 9 [(0, .ref sb), (1, .ref (a 0)), (2, .ref (c 0)), (3, .ref ao), (4, .int iI)] → W p l e0 room_1 s m #[Value.ref sb] below meth cd H1 locs1 (ce + 4) (sl + 24) (lw_Z below #[Value.ref sb] s) (F0 m 2784 ls1 [])) :
    W p l e0 room_1 s m #[Value.ref sb] below meth cd H0 locs ce sl (lw_Z below #[Value.ref sb] s) (F0 m 2771 ls []) := by
  obtain ⟨wd, fa, od, hd, qc, qs, bc, bs, tl, rl, H, q, w, fr, tr, g, re, fi, ro, im, r, pk, cz, lh, lp, se, md, ff, now, before, chg, th, row, comes, layer, rounds, value, place, places, made, lq, left, gone, vo, hI, hP, hD⟩ := hw
  obtain ⟨hlt, hL, C0, hK, hN, hX, hNc⟩ := C
  obtain ⟨hx, hb, hr, hml, hown, hts0, hX9, hbl, hlocks, hgv⟩ := C0
  have hts : ∀ w ∈ wsL_law, w.before #[Value.ref sb] s = true := fun w h => hts0 w (zL_law w h)
  have hown : s.vm.findClass RL = some m.cls := hown
  have hA9 : ∀ q : Nat, s.heap.size ≤ q → (fun q : Nat => s.heap.size ≤ q) q := fun _ h => h
  have hbA : ¬ (fun q : Nat => s.heap.size ≤ q) sb := Nat.not_le.mpr hbl
  have hc0 : ce ≤ room_1.cells := by show ce ≤ 601024; omega
  have hs0 : sl ≤ room_1.slots := by show sl ≤ 7293034; omega
  have hc1 : ce + 0 ≤ room_1.cells := by show ce + 0 ≤ 601024; omega
  have hs1 : sl + 0 ≤ room_1.slots := by show sl + 0 ≤ 7293034; omega
  refine lv_aload_n hx hb dL_law_2771 rfl (lv_at hl 1 rfl) ?_
  obtain ⟨v, q', w', fr', g', re', fi', ro', r', ff', value', place', places', e1, e2, hI'⟩ := zI_checksum K hK9 hI q fr th place places
  unfold zapr zapg at e1
  have hP := zP_perm (List.perm_middle (a := (ao, zoc tt vo)) (l₁ := wL tt a b d wd fa od hd qc qs bc bs tl rl H q w fr tr g re fi ro im r pk cz lh lp se md ff) (l₂ := wM tt c now before chg th row comes layer rounds value place places made lq left gone)).symm hP
  have hD := zD_perm (List.perm_middle (a := (ao, zoc tt vo)) (l₁ := wL tt a b d wd fa od hd qc qs bc bs tl rl H q w fr tr g re fi ro im r pk cz lh lp se md ff) (l₂ := wM tt c now before chg th row comes layer rounds value place places made lq left gone)).symm hD
  refine z_callVi (wc := wL tt a b d wd fa od hd qc qs bc bs tl rl H q w fr tr g re fi ro im r pk cz lh lp se md ff) (wr := (ao, zoc tt vo) :: wM tt c now before chg th row comes layer rounds value place places made lq left gone) (As := []) (rest := []) (ci := 10) ⟨hx, hb, hml, hown, hts⟩ hK hN hP hD hS hA9 (nX11_checksum l G tt H0.size K a b d wd fa od hd qc qs bc bs tl rl H q w fr tr g re fi ro im r pk cz lh lp se md ff _ e1) (cwV 0 hts gL_law_X11_checksum rfl rfl rfl (by decide +kernel) ⟨Nat.le_of_ble_eq_true rfl, Nat.le_of_ble_eq_true rfl⟩) rfl rfl rfl hl.1 rfl (Nat.le_of_ble_eq_true rfl) dL_law_2772 ⟨hc0, hs0⟩ (fun rr u H0 locs hw hP hD hS => ?_)
  obtain ⟨hw1, hw2⟩ := hw
  replace hw1 := hw1.symm; subst hw1
  replace hw2 := hw2.symm; subst hw2
  have hP : va_P G vwCl ((ao, zoc tt vo) :: (wM tt c now before chg th row comes layer rounds value place places made lq left gone ++ wL tt a b d wd fa od hd qc qs bc bs tl rl H q' w' fr' tr g' re' fi' ro' 1 r' pk cz lh lp se md ff')) H0 := hP
  have hD : va_D (fun q : Nat => s.heap.size ≤ q) ((ao, zoc tt vo) :: (wM tt c now before chg th row comes layer rounds value place places made lq left gone ++ wL tt a b d wd fa od hd qc qs bc bs tl rl H q' w' fr' tr g' re' fi' ro' 1 r' pk cz lh lp se md ff')) := hD
  have hP := zP_perm (List.perm_middle (a := (ao, zoc tt vo)) (l₁ := wM tt c now before chg th row comes layer rounds value place places made lq left gone) (l₂ := wL tt a b d wd fa od hd qc qs bc bs tl rl H q' w' fr' tr g' re' fi' ro' 1 r' pk cz lh lp se md ff')).symm hP
  have hD := zD_perm (List.perm_middle (a := (ao, zoc tt vo)) (l₁ := wM tt c now before chg th row comes layer rounds value place places made lq left gone) (l₂ := wL tt a b d wd fa od hd qc qs bc bs tl rl H q' w' fr' tr g' re' fi' ro' 1 r' pk cz lh lp se md ff')).symm hD
  refine lv_aload_n hx hb dL_law_2775 rfl (lv_at hl 2 rfl) ?_
  refine z_callVi (wc := wM tt c now before chg th row comes layer rounds value place places made lq left gone) (wr := (ao, zoc tt vo) :: wL tt a b d wd fa od hd qc qs bc bs tl rl H q' w' fr' tr g' re' fi' ro' 1 r' pk cz lh lp se md ff') (As := []) (rest := [.int v]) (ci := 11) ⟨hx, hb, hml, hown, hts⟩ hK hN hP hD hS hA9 (nX12_checksum l G tt H0.size K c now before chg th row comes layer rounds value place places made lq left gone  _ e2) (cwV 0 hts gL_law_X12_checksum rfl rfl rfl (by decide +kernel) ⟨Nat.le_of_ble_eq_true rfl, Nat.le_of_ble_eq_true rfl⟩) rfl rfl rfl hl.1 rfl (Nat.le_of_ble_eq_true rfl) dL_law_2776 ⟨hc0, hs0⟩ (fun rr u H0 locs hw hP hD hS => ?_)
  obtain ⟨hw1, hw2⟩ := hw
  replace hw1 := hw1.symm; subst hw1
  replace hw2 := hw2.symm; subst hw2
  have hP : va_P G vwCl (((ao, zoc tt vo) :: wL tt a b d wd fa od hd qc qs bc bs tl rl H q' w' fr' tr g' re' fi' ro' 1 r' pk cz lh lp se md ff') ++ wM tt c now before chg 0 row comes layer rounds value' place' places' made lq left gone) H0 := hP
  have hD : va_D (fun q : Nat => s.heap.size ≤ q) (((ao, zoc tt vo) :: wL tt a b d wd fa od hd qc qs bc bs tl rl H q' w' fr' tr g' re' fi' ro' 1 r' pk cz lh lp se md ff') ++ wM tt c now before chg 0 row comes layer rounds value' place' places' made lq left gone) := hD
  refine lv_icmp_eq (tgt := 2784) hx hb dL_law_2779 (by decide) (fun _ => ?_) (fun h9 => absurd rfl h9)
  refine z_widen (k := ce + 4) (n := sl + 24) (by omega) (by omega) ?_
  refine z_widen (k := ce + 4) (n := sl + 24) (by omega) (by omega) ?_
  exact kk H0 locs ls ⟨wd, fa, od, hd, qc, qs, bc, bs, tl, rl, H, q', w', fr', tr, g', re', fi', ro', 1, r', pk, cz, lh, lp, se, md, ff', now, before, chg, 0, row, comes, layer, rounds, value', place', places', made, lq, left, gone, vo, hI', hP, hD⟩ hS (lv_sub hl [0, 1, 2, 3, 4] rfl)
