/-! the arms of the law's loop -/
set_option maxHeartbeats 4000000 in
set_option maxRecDepth 100000 in
theorem zarm_addTable (K : Nat) (hK9 : 1000000 < K) {p : Program} {l : Launch} {e0 : Env} {s : State} {m : MethodId} {below : List Frame} {meth : Method} {cd : Code} {sb L : Nat} {xs : Nat → Int32} {G : va_G} {tt : Nat → ClassId} {sa : Nat → Nat} (C : zCtx p l s m meth cd sb L xs G tt sa) (a : Nat → Nat) (b : Nat → Nat → Nat) (d : Nat → Nat → Nat → Nat) (c : Nat → Nat) (ao : Nat) {i : Nat} {iI : Int32} (hi : i + 7 ≤ L) (hiI : iI = nI i) {ce sl : Nat} (hce : ce ≤ 600000) (hsl : sl ≤ 7290000) {H0 : Heap} {locs : List Loc} (hw : zWorld G tt a b d c ao (fun q : Nat => s.heap.size ≤ q) H0) (hS : va_S (fun q : Nat => s.heap.size ≤ q) s.heap H0 locs) {ls : Array Slot} (hl : lv_has ls 9 [(0, .ref sb), (1, .ref (a 0)), (2, .ref (c 0)), (3, .ref ao), (4, .int iI)])
    (kk : ∀ (H1 : Heap) (locs1 : List Loc) (ls1 : Array Slot), zWorld G tt a b d c ao (fun q : Nat => s.heap.size ≤ q) H1 → va_S (fun q : Nat => s.heap.size ≤ q) s.heap H1 locs1 → lv_has ls1 9 [(0, .ref sb), (1, .ref (a 0)), (2, .ref (c 0)), (3, .ref ao), (4, .int iI)] → W p l e0 room_1 s m #[Value.ref sb] below meth cd H1 locs1 (ce + 4) (sl + 24) (lw_Z below #[Value.ref sb] s) (F0 m 2784 ls1 [])) :
    W p l e0 room_1 s m #[Value.ref sb] below meth cd H0 locs ce sl (lw_Z below #[Value.ref sb] s) (F0 m 220 ls []) := by
  obtain ⟨wd, fa, od, hd, qc, qs, bc, bs, tl, rl, H, q, w, fr, tr, g, re, fi, ro, im, r, pk, cz, lh, lp, se, md, ff, now, before, chg, th, row, comes, layer, rounds, value, place, places, made, lq, left, gone, vo, hI, hP, hD⟩ := hw
  obtain ⟨hlt, hL, C0, hK, hN, hX, hNc⟩ := C
  obtain ⟨hx, hb, hr, hml, hown, hts0, hX9, hbl, hlocks, hgv⟩ := C0
  have hts : ∀ w ∈ wsL_law, w.before #[Value.ref sb] s = true := fun w h => hts0 w (zL_law w h)
  have hown : s.vm.findClass RL = some m.cls := hown
  have hA9 : ∀ q : Nat, s.heap.size ≤ q → (fun q : Nat => s.heap.size ≤ q) q := fun _ h => h
  have hbA : ¬ (fun q : Nat => s.heap.size ≤ q) sb := Nat.not_le.mpr hbl
  have hc0 : ce ≤ room_1.cells := by show ce ≤ 601024; omega
  have hs0 : sl ≤ room_1.slots := by show sl ≤ 7293034; omega
  have hc1 : ce + 1 ≤ room_1.cells := by show ce + 1 ≤ 601024; omega
  have hs1 : sl + 6 ≤ room_1.slots := by show sl + 6 ≤ 7293034; omega
  refine lv_aload_n hx hb dL_law_220 rfl (lv_at hl 1 rfl) ?_
  refine lv_aload_n hx hb dL_law_221 rfl (lv_at hl 0 rfl) ?_
  refine lv_iload hx hb dL_law_222 (lv_at hl 4 rfl) ?_
  refine lv_iconst (v := (1 : Int32)) hx hb dL_law_224 (by decide) ?_
  refine lv_iadd hx hb dL_law_225 ?_
  refine va_sld hx hb hX9 hbl hbA hS (zin_L hi hL hiI 1 (by decide) (1 : Int32) rfl) dL_law_226 ?_
  refine lv_topi (fun x1 ex1 => ?_)
  refine lv_aload_n hx hb dL_law_227 rfl (lv_at hl 3 rfl) ?_
  obtain ⟨e, bb, wd', tl', H', im', ff', now', before', chg', row', comes', layer', rounds', value', e1, e2, hA, hI'⟩ := zI_addTable K hK9 hI comes x1 th
  unfold zaph at e1
  refine z_callW (wc := (ao, zoc tt vo) :: wL tt a b d wd fa od hd qc qs bc bs tl rl H q w fr tr g re fi ro im r pk cz lh lp se md ff) (wr := wM tt c now before chg th row comes layer rounds value place places made lq left gone) (As := [.ref (a 0), .int x1, .ref ao]) (rest := []) ⟨hx, hb, hml, hown, hts⟩ hK hN hX hNc hP hD hS hA9 (mL_addTable l G tt sa hlt H0.size K a b d wd fa od hd qc qs bc bs tl rl H q w fr tr g re fi ro im r pk cz lh lp se md ff x1 ao vo _ e1 bb hA) (vx_cwSW 3 hts gL_law_L_addTable rfl rfl rfl (by decide +kernel) ⟨Nat.le_of_ble_eq_true rfl, Nat.le_of_ble_eq_true rfl⟩) rfl hl.1 rfl (Nat.le_of_ble_eq_true rfl) dL_law_228 ⟨hc1, hs1⟩ (fun rr u H0 locs hw hP hD hS => ?_)
  obtain ⟨hw1, hw2⟩ := hw
  replace hw1 := hw1.symm; subst hw1
  replace hw2 := hw2.symm; subst hw2
  have hP : va_P G vwCl (wM tt c now before chg th row comes layer rounds value place places made lq left gone ++ ((ao, zoc tt (zout Int32.toInt64 vo e)) :: wL tt a b d wd' fa od hd qc qs bc bs tl' rl H' q w fr tr g re fi ro im' r pk cz lh lp se md ff')) H0 := hP
  have hD : va_D (fun q : Nat => s.heap.size ≤ q) (wM tt c now before chg th row comes layer rounds value place places made lq left gone ++ ((ao, zoc tt (zout Int32.toInt64 vo e)) :: wL tt a b d wd' fa od hd qc qs bc bs tl' rl H' q w fr tr g re fi ro im' r pk cz lh lp se md ff')) := hD
  refine lv_istore (lv' := [(5, .int bb.2), (0, .ref sb), (1, .ref (a 0)), (2, .ref (c 0)), (3, .ref ao), (4, .int iI)]) hx hb dL_law_231 hl (by decide) rfl (fun ls hl => ?_)
  refine lv_aload_n hx hb dL_law_233 rfl (lv_at hl 3 rfl) ?_
  refine lv_aload_n hx hb dL_law_234 rfl (lv_at hl 1 rfl) ?_
  refine lv_iload hx hb dL_law_235 (lv_at hl 5 rfl) ?_
  refine lv_iconst (v := (1 : Int32)) hx hb dL_law_237 (by decide) ?_
  refine lv_iadd hx hb dL_law_238 ?_
  refine va_sld hx hb hX9 hbl hbA hS (zin_L hi hL hiI 1 (by decide) (1 : Int32) rfl) dL_law_239 ?_
  refine lv_topi (fun x2 ex2 => ?_)
  obtain rfl : x2 = x1 := ex2.trans ex1.symm
  refine z_callVi (wc := wM tt c now before chg th row comes layer rounds value place places made lq left gone) (wr := (ao, zoc tt (zout Int32.toInt64 vo e)) :: wL tt a b d wd' fa od hd qc qs bc bs tl' rl H' q w fr tr g re fi ro im' r pk cz lh lp se md ff') (As := [.int x2]) (rest := []) (ci := 11) ⟨hx, hb, hml, hown, hts⟩ hK hN hP hD hS hA9 (nX12_addTable l G tt H0.size K c now before chg th row comes layer rounds value place places made lq left gone x2 _ e2) (cwV 1 hts gL_law_X12_addTable rfl rfl rfl (by decide +kernel) ⟨Nat.le_of_ble_eq_true rfl, Nat.le_of_ble_eq_true rfl⟩) rfl rfl rfl hl.1 rfl (Nat.le_of_ble_eq_true rfl) dL_law_240 ⟨hc1, hs1⟩ (fun rr u H0 locs hw hP hD hS => ?_)
  obtain ⟨hw1, hw2⟩ := hw
  replace hw1 := hw1.symm; subst hw1
  replace hw2 := hw2.symm; subst hw2
  have hP : va_P G vwCl (((ao, zoc tt (zout Int32.toInt64 vo e)) :: wL tt a b d wd' fa od hd qc qs bc bs tl' rl H' q w fr tr g re fi ro im' r pk cz lh lp se md ff') ++ wM tt c now' before' chg' bb.2 row' comes' layer' rounds' value' place places made lq left gone) H0 := hP
  have hD : va_D (fun q : Nat => s.heap.size ≤ q) (((ao, zoc tt (zout Int32.toInt64 vo e)) :: wL tt a b d wd' fa od hd qc qs bc bs tl' rl H' q w fr tr g re fi ro im' r pk cz lh lp se md ff') ++ wM tt c now' before' chg' bb.2 row' comes' layer' rounds' value' place places made lq left gone) := hD
  refine lv_istore (lv' := [(6, .int bb.1), (5, .int bb.2), (0, .ref sb), (1, .ref (a 0)), (2, .ref (c 0)), (3, .ref ao), (4, .int iI)]) hx hb dL_law_243 hl (by decide) rfl (fun ls hl => ?_)
  refine lv_aload_n hx hb dL_law_245 rfl (lv_at hl 4 rfl) ?_
  have hP := zP_perm (List.perm_append_comm (l₁ := (ao, zoc tt (zout Int32.toInt64 vo e)) :: wL tt a b d wd' fa od hd qc qs bc bs tl' rl H' q w fr tr g re fi ro im' r pk cz lh lp se md ff') (l₂ := wM tt c now' before' chg' bb.2 row' comes' layer' rounds' value' place places made lq left gone)) hP
  have hD := zD_perm (List.perm_append_comm (l₁ := (ao, zoc tt (zout Int32.toInt64 vo e)) :: wL tt a b d wd' fa od hd qc qs bc bs tl' rl H' q w fr tr g re fi ro im' r pk cz lh lp se md ff') (l₂ := wM tt c now' before' chg' bb.2 row' comes' layer' rounds' value' place places made lq left gone)) hD
  refine z_callVi (wc := wM tt c now' before' chg' bb.2 row' comes' layer' rounds' value' place places made lq left gone) (wr := (ao, zoc tt (zout Int32.toInt64 vo e)) :: wL tt a b d wd' fa od hd qc qs bc bs tl' rl H' q w fr tr g re fi ro im' r pk cz lh lp se md ff') (As := []) (rest := []) (ci := 11) ⟨hx, hb, hml, hown, hts⟩ hK hN hP hD hS hA9 (nX12_thrown l G tt H0.size c now' before' chg' bb.2 row' comes' layer' rounds' value' place places made lq left gone bb.2 rfl) (cwV 0 hts gL_law_X12_thrown rfl rfl rfl (by decide +kernel) ⟨Nat.le_of_ble_eq_true rfl, Nat.le_of_ble_eq_true rfl⟩) rfl rfl rfl hl.1 rfl (Nat.le_of_ble_eq_true rfl) dL_law_246 ⟨hc1, hs1⟩ (fun rr u H0 locs hw hP hD hS => ?_)
  replace hw := hw.symm; subst hw
  have hP : va_P G vwCl (((ao, zoc tt (zout Int32.toInt64 vo e)) :: wL tt a b d wd' fa od hd qc qs bc bs tl' rl H' q w fr tr g re fi ro im' r pk cz lh lp se md ff') ++ wM tt c now' before' chg' bb.2 row' comes' layer' rounds' value' place places made lq left gone) H0 := hP
  have hD : va_D (fun q : Nat => s.heap.size ≤ q) (((ao, zoc tt (zout Int32.toInt64 vo e)) :: wL tt a b d wd' fa od hd qc qs bc bs tl' rl H' q w fr tr g re fi ro im' r pk cz lh lp se md ff') ++ wM tt c now' before' chg' bb.2 row' comes' layer' rounds' value' place places made lq left gone) := hD
  refine lv_iload hx hb dL_law_249 (lv_at hl 1 rfl) ?_
  refine lv_icmp_eq (tgt := 256) hx hb dL_law_251 (by decide) (fun _ => ?_) (fun h9 => absurd rfl h9)
  refine lv_iload hx hb dL_law_256 (lv_at hl 1 rfl) ?_
  rcases hA with ⟨k9, ek, hk9, rfl⟩ | ⟨v9, ev, rfl⟩
  · refine lv_if_ne (tgt := 273) hx hb dL_law_258 (by decide) (fun _ => ?_) (fun h9 => absurd h9 (fun h => z12_ne hk9 h))
    refine lv_goto (tgt := 2784) hx hb dL_law_273 (by decide) ?_
    refine z_widen (k := ce + 4) (n := sl + 24) (by omega) (by omega) ?_
    exact kk H0 locs ls ⟨wd', fa, od, hd, qc, qs, bc, bs, tl', rl, H', q, w, fr, tr, g, re, fi, ro, im', r, pk, cz, lh, lp, se, md, ff', now', before', chg', _, row', comes', layer', rounds', value', place, places, made, lq, left, gone, (zout Int32.toInt64 vo e), hI', hP, hD⟩ hS (lv_sub hl [2, 3, 4, 5, 6] rfl)
  · refine lv_if_ne (tgt := 273) hx hb dL_law_258 (by decide) (fun h9 => absurd rfl h9) (fun _ => ?_)
    refine lv_aload_n hx hb dL_law_261 rfl (lv_at hl 5 rfl) ?_
    refine lv_iconst (v := (0 : Int32)) hx hb dL_law_262 (by decide) ?_
    refine va_lald hx hb hK hP 0 1 rfl rfl (inB_vp (by decide)) dL_law_263 ?_
    refine lv_iload hx hb dL_law_264 (lv_at hl 0 rfl) ?_
    refine lv_i2l hx hb dL_law_266 rfl ?_
    refine W.lcmp hx hb dL_law_267 ?_
    refine lv_if_eq (tgt := 273) hx hb dL_law_268 (by decide) (fun _ => ?_) (fun h9 => absurd ((lg_cmp_eq _ _).mpr (by subst ev; exact (zout_at Int32.toInt64 vo v9))) h9)
    refine lv_goto (tgt := 2784) hx hb dL_law_273 (by decide) ?_
    refine z_widen (k := ce + 4) (n := sl + 24) (by omega) (by omega) ?_
    exact kk H0 locs ls ⟨wd', fa, od, hd, qc, qs, bc, bs, tl', rl, H', q, w, fr, tr, g, re, fi, ro, im', r, pk, cz, lh, lp, se, md, ff', now', before', chg', _, row', comes', layer', rounds', value', place, places, made, lq, left, gone, (zout Int32.toInt64 vo e), hI', hP, hD⟩ hS (lv_sub hl [2, 3, 4, 5, 6] rfl)

set_option maxHeartbeats 4000000 in
set_option maxRecDepth 100000 in
theorem zarm_addFact (K : Nat) (hK9 : 1000000 < K) {p : Program} {l : Launch} {e0 : Env} {s : State} {m : MethodId} {below : List Frame} {meth : Method} {cd : Code} {sb L : Nat} {xs : Nat → Int32} {G : va_G} {tt : Nat → ClassId} {sa : Nat → Nat} (C : zCtx p l s m meth cd sb L xs G tt sa) (a : Nat → Nat) (b : Nat → Nat → Nat) (d : Nat → Nat → Nat → Nat) (c : Nat → Nat) (ao : Nat) {i : Nat} {iI : Int32} (hi : i + 7 ≤ L) (hiI : iI = nI i) {ce sl : Nat} (hce : ce ≤ 600000) (hsl : sl ≤ 7290000) {H0 : Heap} {locs : List Loc} (hw : zWorld G tt a b d c ao (fun q : Nat => s.heap.size ≤ q) H0) (hS : va_S (fun q : Nat => s.heap.size ≤ q) s.heap H0 locs) {ls : Array Slot} (hl : lv_has ls 9 [(0, .ref sb), (1, .ref (a 0)), (2, .ref (c 0)), (3, .ref ao), (4, .int iI)])
    (kk : ∀ (H1 : Heap) (locs1 : List Loc) (ls1 : Array Slot), zWorld G tt a b d c ao (fun q : Nat => s.heap.size ≤ q) H1 → va_S (fun q : Nat => s.heap.size ≤ q) s.heap H1 locs1 → lv_has ls1 9 [(0, .ref sb), (1, .ref (a 0)), (2, .ref (c 0)), (3, .ref ao), (4, .int iI)] → W p l e0 room_1 s m #[Value.ref sb] below meth cd H1 locs1 (ce + 4) (sl + 24) (lw_Z below #[Value.ref sb] s) (F0 m 2784 ls1 [])) :
    W p l e0 room_1 s m #[Value.ref sb] below meth cd H0 locs ce sl (lw_Z below #[Value.ref sb] s) (F0 m 276 ls []) := by
  obtain ⟨wd, fa, od, hd, qc, qs, bc, bs, tl, rl, H, q, w, fr, tr, g, re, fi, ro, im, r, pk, cz, lh, lp, se, md, ff, now, before, chg, th, row, comes, layer, rounds, value, place, places, made, lq, left, gone, vo, hI, hP, hD⟩ := hw
  obtain ⟨hlt, hL, C0, hK, hN, hX, hNc⟩ := C
  obtain ⟨hx, hb, hr, hml, hown, hts0, hX9, hbl, hlocks, hgv⟩ := C0
  have hts : ∀ w ∈ wsL_law, w.before #[Value.ref sb] s = true := fun w h => hts0 w (zL_law w h)
  have hown : s.vm.findClass RL = some m.cls := hown
  have hA9 : ∀ q : Nat, s.heap.size ≤ q → (fun q : Nat => s.heap.size ≤ q) q := fun _ h => h
  have hbA : ¬ (fun q : Nat => s.heap.size ≤ q) sb := Nat.not_le.mpr hbl
  have hc0 : ce ≤ room_1.cells := by show ce ≤ 601024; omega
  have hs0 : sl ≤ room_1.slots := by show sl ≤ 7293034; omega
  have hc1 : ce + 3 ≤ room_1.cells := by show ce + 3 ≤ 601024; omega
  have hs1 : sl + 18 ≤ room_1.slots := by show sl + 18 ≤ 7293034; omega
  refine lv_aload_n hx hb dL_law_276 rfl (lv_at hl 1 rfl) ?_
  refine lv_aload_n hx hb dL_law_277 rfl (lv_at hl 0 rfl) ?_
  refine lv_iload hx hb dL_law_278 (lv_at hl 4 rfl) ?_
  refine lv_iconst (v := (1 : Int32)) hx hb dL_law_280 (by decide) ?_
  refine lv_iadd hx hb dL_law_281 ?_
  refine va_sld hx hb hX9 hbl hbA hS (zin_L hi hL hiI 1 (by decide) (1 : Int32) rfl) dL_law_282 ?_
  refine lv_topi (fun x1 ex1 => ?_)
  refine lv_aload_n hx hb dL_law_283 rfl (lv_at hl 0 rfl) ?_
  refine lv_iload hx hb dL_law_284 (lv_at hl 4 rfl) ?_
  refine lv_iconst (v := (2 : Int32)) hx hb dL_law_286 (by decide) ?_
  refine lv_iadd hx hb dL_law_287 ?_
  refine va_sld hx hb hX9 hbl hbA hS (zin_L hi hL hiI 2 (by decide) (2 : Int32) rfl) dL_law_288 ?_
  refine lv_topi (fun x2 ex2 => ?_)
  refine lv_aload_n hx hb dL_law_289 rfl (lv_at hl 0 rfl) ?_
  refine lv_iload hx hb dL_law_290 (lv_at hl 4 rfl) ?_
  refine lv_iconst (v := (3 : Int32)) hx hb dL_law_292 (by decide) ?_
  refine lv_iadd hx hb dL_law_293 ?_
  refine va_sld hx hb hX9 hbl hbA hS (zin_L hi hL hiI 3 (by decide) (3 : Int32) rfl) dL_law_294 ?_
  refine lv_topi (fun x3 ex3 => ?_)
  refine lv_aload_n hx hb dL_law_295 rfl (lv_at hl 0 rfl) ?_
  refine lv_iload hx hb dL_law_296 (lv_at hl 4 rfl) ?_
  refine lv_iconst (v := (4 : Int32)) hx hb dL_law_298 (by decide) ?_
  refine lv_iadd hx hb dL_law_299 ?_
  refine va_sld hx hb hX9 hbl hbA hS (zin_L hi hL hiI 4 (by decide) (4 : Int32) rfl) dL_law_300 ?_
  refine lv_topi (fun x4 ex4 => ?_)
  refine lv_aload_n hx hb dL_law_301 rfl (lv_at hl 3 rfl) ?_
  obtain ⟨e, bb, fa', H', im', ff', now', before', chg', row', comes', layer', rounds', value', e1, e2, hA, hI'⟩ := zI_addFact K hK9 hI comes x1 x2 x3 x4 th
  unfold zaph at e1
  refine z_callW (wc := (ao, zoc tt vo) :: wL tt a b d wd fa od hd qc qs bc bs tl rl H q w fr tr g re fi ro im r pk cz lh lp se md ff) (wr := wM tt c now before chg th row comes layer rounds value place places made lq left gone) (As := [.ref (a 0), .int x1, .int x2, .int x3, .int x4, .ref ao]) (rest := []) ⟨hx, hb, hml, hown, hts⟩ hK hN hX hNc hP hD hS hA9 (mL_addFact l G tt sa hlt H0.size K a b d wd fa od hd qc qs bc bs tl rl H q w fr tr g re fi ro im r pk cz lh lp se md ff x1 x2 x3 x4 ao vo _ e1 bb hA) (vx_cwSW 6 hts gL_law_L_addFact rfl rfl rfl (by decide +kernel) ⟨Nat.le_of_ble_eq_true rfl, Nat.le_of_ble_eq_true rfl⟩) rfl hl.1 rfl (Nat.le_of_ble_eq_true rfl) dL_law_302 ⟨hc1, hs1⟩ (fun rr u H0 locs hw hP hD hS => ?_)
  obtain ⟨hw1, hw2⟩ := hw
  replace hw1 := hw1.symm; subst hw1
  replace hw2 := hw2.symm; subst hw2
  have hP : va_P G vwCl (wM tt c now before chg th row comes layer rounds value place places made lq left gone ++ ((ao, zoc tt (zout Int32.toInt64 vo e)) :: wL tt a b d wd fa' od hd qc qs bc bs tl rl H' q w fr tr g re fi ro im' r pk cz lh lp se md ff')) H0 := hP
  have hD : va_D (fun q : Nat => s.heap.size ≤ q) (wM tt c now before chg th row comes layer rounds value place places made lq left gone ++ ((ao, zoc tt (zout Int32.toInt64 vo e)) :: wL tt a b d wd fa' od hd qc qs bc bs tl rl H' q w fr tr g re fi ro im' r pk cz lh lp se md ff')) := hD
  refine lv_istore (lv' := [(5, .int bb.2), (0, .ref sb), (1, .ref (a 0)), (2, .ref (c 0)), (3, .ref ao), (4, .int iI)]) hx hb dL_law_305 hl (by decide) rfl (fun ls hl => ?_)
  refine lv_aload_n hx hb dL_law_307 rfl (lv_at hl 3 rfl) ?_
  refine lv_aload_n hx hb dL_law_308 rfl (lv_at hl 1 rfl) ?_
  refine lv_iload hx hb dL_law_309 (lv_at hl 5 rfl) ?_
  refine lv_iconst (v := (1 : Int32)) hx hb dL_law_311 (by decide) ?_
  refine lv_iadd hx hb dL_law_312 ?_
  refine va_sld hx hb hX9 hbl hbA hS (zin_L hi hL hiI 1 (by decide) (1 : Int32) rfl) dL_law_313 ?_
  refine lv_topi (fun x5 ex5 => ?_)
  obtain rfl : x5 = x1 := ex5.trans ex1.symm
  refine lv_aload_n hx hb dL_law_314 rfl (lv_at hl 1 rfl) ?_
  refine lv_iload hx hb dL_law_315 (lv_at hl 5 rfl) ?_
  refine lv_iconst (v := (2 : Int32)) hx hb dL_law_317 (by decide) ?_
  refine lv_iadd hx hb dL_law_318 ?_
  refine va_sld hx hb hX9 hbl hbA hS (zin_L hi hL hiI 2 (by decide) (2 : Int32) rfl) dL_law_319 ?_
  refine lv_topi (fun x6 ex6 => ?_)
  obtain rfl : x6 = x2 := ex6.trans ex2.symm
  refine lv_aload_n hx hb dL_law_320 rfl (lv_at hl 1 rfl) ?_
  refine lv_iload hx hb dL_law_321 (lv_at hl 5 rfl) ?_
  refine lv_iconst (v := (3 : Int32)) hx hb dL_law_323 (by decide) ?_
  refine lv_iadd hx hb dL_law_324 ?_
  refine va_sld hx hb hX9 hbl hbA hS (zin_L hi hL hiI 3 (by decide) (3 : Int32) rfl) dL_law_325 ?_
  refine lv_topi (fun x7 ex7 => ?_)
  obtain rfl : x7 = x3 := ex7.trans ex3.symm
  refine lv_aload_n hx hb dL_law_326 rfl (lv_at hl 1 rfl) ?_
  refine lv_iload hx hb dL_law_327 (lv_at hl 5 rfl) ?_
  refine lv_iconst (v := (4 : Int32)) hx hb dL_law_329 (by decide) ?_
  refine lv_iadd hx hb dL_law_330 ?_
  refine va_sld hx hb hX9 hbl hbA hS (zin_L hi hL hiI 4 (by decide) (4 : Int32) rfl) dL_law_331 ?_
  refine lv_topi (fun x8 ex8 => ?_)
  obtain rfl : x8 = x4 := ex8.trans ex4.symm
  refine z_callVi (wc := wM tt c now before chg th row comes layer rounds value place places made lq left gone) (wr := (ao, zoc tt (zout Int32.toInt64 vo e)) :: wL tt a b d wd fa' od hd qc qs bc bs tl rl H' q w fr tr g re fi ro im' r pk cz lh lp se md ff') (As := [.int x5, .int x6, .int x7, .int x8]) (rest := []) (ci := 11) ⟨hx, hb, hml, hown, hts⟩ hK hN hP hD hS hA9 (nX12_addFact l G tt H0.size K c now before chg th row comes layer rounds value place places made lq left gone x5 x6 x7 x8 _ e2) (cwV 4 hts gL_law_X12_addFact rfl rfl rfl (by decide +kernel) ⟨Nat.le_of_ble_eq_true rfl, Nat.le_of_ble_eq_true rfl⟩) rfl rfl rfl hl.1 rfl (Nat.le_of_ble_eq_true rfl) dL_law_332 ⟨hc1, hs1⟩ (fun rr u H0 locs hw hP hD hS => ?_)
  obtain ⟨hw1, hw2⟩ := hw
  replace hw1 := hw1.symm; subst hw1
  replace hw2 := hw2.symm; subst hw2
  have hP : va_P G vwCl (((ao, zoc tt (zout Int32.toInt64 vo e)) :: wL tt a b d wd fa' od hd qc qs bc bs tl rl H' q w fr tr g re fi ro im' r pk cz lh lp se md ff') ++ wM tt c now' before' chg' bb.2 row' comes' layer' rounds' value' place places made lq left gone) H0 := hP
  have hD : va_D (fun q : Nat => s.heap.size ≤ q) (((ao, zoc tt (zout Int32.toInt64 vo e)) :: wL tt a b d wd fa' od hd qc qs bc bs tl rl H' q w fr tr g re fi ro im' r pk cz lh lp se md ff') ++ wM tt c now' before' chg' bb.2 row' comes' layer' rounds' value' place places made lq left gone) := hD
  refine lv_istore (lv' := [(6, .int bb.1), (5, .int bb.2), (0, .ref sb), (1, .ref (a 0)), (2, .ref (c 0)), (3, .ref ao), (4, .int iI)]) hx hb dL_law_335 hl (by decide) rfl (fun ls hl => ?_)
  refine lv_aload_n hx hb dL_law_337 rfl (lv_at hl 4 rfl) ?_
  have hP := zP_perm (List.perm_append_comm (l₁ := (ao, zoc tt (zout Int32.toInt64 vo e)) :: wL tt a b d wd fa' od hd qc qs bc bs tl rl H' q w fr tr g re fi ro im' r pk cz lh lp se md ff') (l₂ := wM tt c now' before' chg' bb.2 row' comes' layer' rounds' value' place places made lq left gone)) hP
  have hD := zD_perm (List.perm_append_comm (l₁ := (ao, zoc tt (zout Int32.toInt64 vo e)) :: wL tt a b d wd fa' od hd qc qs bc bs tl rl H' q w fr tr g re fi ro im' r pk cz lh lp se md ff') (l₂ := wM tt c now' before' chg' bb.2 row' comes' layer' rounds' value' place places made lq left gone)) hD
  refine z_callVi (wc := wM tt c now' before' chg' bb.2 row' comes' layer' rounds' value' place places made lq left gone) (wr := (ao, zoc tt (zout Int32.toInt64 vo e)) :: wL tt a b d wd fa' od hd qc qs bc bs tl rl H' q w fr tr g re fi ro im' r pk cz lh lp se md ff') (As := []) (rest := []) (ci := 11) ⟨hx, hb, hml, hown, hts⟩ hK hN hP hD hS hA9 (nX12_thrown l G tt H0.size c now' before' chg' bb.2 row' comes' layer' rounds' value' place places made lq left gone bb.2 rfl) (cwV 0 hts gL_law_X12_thrown rfl rfl rfl (by decide +kernel) ⟨Nat.le_of_ble_eq_true rfl, Nat.le_of_ble_eq_true rfl⟩) rfl rfl rfl hl.1 rfl (Nat.le_of_ble_eq_true rfl) dL_law_338 ⟨hc1, hs1⟩ (fun rr u H0 locs hw hP hD hS => ?_)
  replace hw := hw.symm; subst hw
  have hP : va_P G vwCl (((ao, zoc tt (zout Int32.toInt64 vo e)) :: wL tt a b d wd fa' od hd qc qs bc bs tl rl H' q w fr tr g re fi ro im' r pk cz lh lp se md ff') ++ wM tt c now' before' chg' bb.2 row' comes' layer' rounds' value' place places made lq left gone) H0 := hP
  have hD : va_D (fun q : Nat => s.heap.size ≤ q) (((ao, zoc tt (zout Int32.toInt64 vo e)) :: wL tt a b d wd fa' od hd qc qs bc bs tl rl H' q w fr tr g re fi ro im' r pk cz lh lp se md ff') ++ wM tt c now' before' chg' bb.2 row' comes' layer' rounds' value' place places made lq left gone) := hD
  refine lv_iload hx hb dL_law_341 (lv_at hl 1 rfl) ?_
  refine lv_icmp_eq (tgt := 348) hx hb dL_law_343 (by decide) (fun _ => ?_) (fun h9 => absurd rfl h9)
  refine lv_iload hx hb dL_law_348 (lv_at hl 1 rfl) ?_
  rcases hA with ⟨k9, hk9, ek, rfl⟩ | ⟨v9, ev, rfl⟩
  · refine lv_if_ne (tgt := 365) hx hb dL_law_350 (by decide) (fun _ => ?_) (fun h9 => absurd h9 (fun h => zcd_ne k9 h))
    refine lv_goto (tgt := 2784) hx hb dL_law_365 (by decide) ?_
    refine z_widen (k := ce + 4) (n := sl + 24) (by omega) (by omega) ?_
    exact kk H0 locs ls ⟨wd, fa', od, hd, qc, qs, bc, bs, tl, rl, H', q, w, fr, tr, g, re, fi, ro, im', r, pk, cz, lh, lp, se, md, ff', now', before', chg', _, row', comes', layer', rounds', value', place, places, made, lq, left, gone, (zout Int32.toInt64 vo e), hI', hP, hD⟩ hS (lv_sub hl [2, 3, 4, 5, 6] rfl)
  · refine lv_if_ne (tgt := 365) hx hb dL_law_350 (by decide) (fun h9 => absurd rfl h9) (fun _ => ?_)
    refine lv_aload_n hx hb dL_law_353 rfl (lv_at hl 5 rfl) ?_
    refine lv_iconst (v := (0 : Int32)) hx hb dL_law_354 (by decide) ?_
    refine va_lald hx hb hK hP 0 1 rfl rfl (inB_vp (by decide)) dL_law_355 ?_
    refine lv_iload hx hb dL_law_356 (lv_at hl 0 rfl) ?_
    refine lv_i2l hx hb dL_law_358 rfl ?_
    refine W.lcmp hx hb dL_law_359 ?_
    refine lv_if_eq (tgt := 365) hx hb dL_law_360 (by decide) (fun _ => ?_) (fun h9 => absurd ((lg_cmp_eq _ _).mpr (by subst ev; exact (zout_at Int32.toInt64 vo v9))) h9)
    refine lv_goto (tgt := 2784) hx hb dL_law_365 (by decide) ?_
    refine z_widen (k := ce + 4) (n := sl + 24) (by omega) (by omega) ?_
    exact kk H0 locs ls ⟨wd, fa', od, hd, qc, qs, bc, bs, tl, rl, H', q, w, fr, tr, g, re, fi, ro, im', r, pk, cz, lh, lp, se, md, ff', now', before', chg', _, row', comes', layer', rounds', value', place, places, made, lq, left, gone, (zout Int32.toInt64 vo e), hI', hP, hD⟩ hS (lv_sub hl [2, 3, 4, 5, 6] rfl)

set_option maxHeartbeats 4000000 in
set_option maxRecDepth 100000 in
theorem zarm_removeFact (K : Nat) (hK9 : 1000000 < K) {p : Program} {l : Launch} {e0 : Env} {s : State} {m : MethodId} {below : List Frame} {meth : Method} {cd : Code} {sb L : Nat} {xs : Nat → Int32} {G : va_G} {tt : Nat → ClassId} {sa : Nat → Nat} (C : zCtx p l s m meth cd sb L xs G tt sa) (a : Nat → Nat) (b : Nat → Nat → Nat) (d : Nat → Nat → Nat → Nat) (c : Nat → Nat) (ao : Nat) {i : Nat} {iI : Int32} (hi : i + 7 ≤ L) (hiI : iI = nI i) {ce sl : Nat} (hce : ce ≤ 600000) (hsl : sl ≤ 7290000) {H0 : Heap} {locs : List Loc} (hw : zWorld G tt a b d c ao (fun q : Nat => s.heap.size ≤ q) H0) (hS : va_S (fun q : Nat => s.heap.size ≤ q) s.heap H0 locs) {ls : Array Slot} (hl : lv_has ls 9 [(0, .ref sb), (1, .ref (a 0)), (2, .ref (c 0)), (3, .ref ao), (4, .int iI)])
    (kk : ∀ (H1 : Heap) (locs1 : List Loc) (ls1 : Array Slot), zWorld G tt a b d c ao (fun q : Nat => s.heap.size ≤ q) H1 → va_S (fun q : Nat => s.heap.size ≤ q) s.heap H1 locs1 → lv_has ls1 9 [(0, .ref sb), (1, .ref (a 0)), (2, .ref (c 0)), (3, .ref ao), (4, .int iI)] → W p l e0 room_1 s m #[Value.ref sb] below meth cd H1 locs1 (ce + 4) (sl + 24) (lw_Z below #[Value.ref sb] s) (F0 m 2784 ls1 [])) :
    W p l e0 room_1 s m #[Value.ref sb] below meth cd H0 locs ce sl (lw_Z below #[Value.ref sb] s) (F0 m 368 ls []) := by
  obtain ⟨wd, fa, od, hd, qc, qs, bc, bs, tl, rl, H, q, w, fr, tr, g, re, fi, ro, im, r, pk, cz, lh, lp, se, md, ff, now, before, chg, th, row, comes, layer, rounds, value, place, places, made, lq, left, gone, vo, hI, hP, hD⟩ := hw
  obtain ⟨hlt, hL, C0, hK, hN, hX, hNc⟩ := C
  obtain ⟨hx, hb, hr, hml, hown, hts0, hX9, hbl, hlocks, hgv⟩ := C0
  have hts : ∀ w ∈ wsL_law, w.before #[Value.ref sb] s = true := fun w h => hts0 w (zL_law w h)
  have hown : s.vm.findClass RL = some m.cls := hown
  have hA9 : ∀ q : Nat, s.heap.size ≤ q → (fun q : Nat => s.heap.size ≤ q) q := fun _ h => h
  have hbA : ¬ (fun q : Nat => s.heap.size ≤ q) sb := Nat.not_le.mpr hbl
  have hc0 : ce ≤ room_1.cells := by show ce ≤ 601024; omega
  have hs0 : sl ≤ room_1.slots := by show sl ≤ 7293034; omega
  have hc1 : ce + 3 ≤ room_1.cells := by show ce + 3 ≤ 601024; omega
  have hs1 : sl + 18 ≤ room_1.slots := by show sl + 18 ≤ 7293034; omega
  refine lv_aload_n hx hb dL_law_368 rfl (lv_at hl 1 rfl) ?_
  refine lv_aload_n hx hb dL_law_369 rfl (lv_at hl 0 rfl) ?_
  refine lv_iload hx hb dL_law_370 (lv_at hl 4 rfl) ?_
  refine lv_iconst (v := (1 : Int32)) hx hb dL_law_372 (by decide) ?_
  refine lv_iadd hx hb dL_law_373 ?_
  refine va_sld hx hb hX9 hbl hbA hS (zin_L hi hL hiI 1 (by decide) (1 : Int32) rfl) dL_law_374 ?_
  refine lv_topi (fun x1 ex1 => ?_)
  refine lv_aload_n hx hb dL_law_375 rfl (lv_at hl 0 rfl) ?_
  refine lv_iload hx hb dL_law_376 (lv_at hl 4 rfl) ?_
  refine lv_iconst (v := (2 : Int32)) hx hb dL_law_378 (by decide) ?_
  refine lv_iadd hx hb dL_law_379 ?_
  refine va_sld hx hb hX9 hbl hbA hS (zin_L hi hL hiI 2 (by decide) (2 : Int32) rfl) dL_law_380 ?_
  refine lv_topi (fun x2 ex2 => ?_)
  refine lv_aload_n hx hb dL_law_381 rfl (lv_at hl 0 rfl) ?_
  refine lv_iload hx hb dL_law_382 (lv_at hl 4 rfl) ?_
  refine lv_iconst (v := (3 : Int32)) hx hb dL_law_384 (by decide) ?_
  refine lv_iadd hx hb dL_law_385 ?_
  refine va_sld hx hb hX9 hbl hbA hS (zin_L hi hL hiI 3 (by decide) (3 : Int32) rfl) dL_law_386 ?_
  refine lv_topi (fun x3 ex3 => ?_)
  refine lv_aload_n hx hb dL_law_387 rfl (lv_at hl 0 rfl) ?_
  refine lv_iload hx hb dL_law_388 (lv_at hl 4 rfl) ?_
  refine lv_iconst (v := (4 : Int32)) hx hb dL_law_390 (by decide) ?_
  refine lv_iadd hx hb dL_law_391 ?_
  refine va_sld hx hb hX9 hbl hbA hS (zin_L hi hL hiI 4 (by decide) (4 : Int32) rfl) dL_law_392 ?_
  refine lv_topi (fun x4 ex4 => ?_)
  refine lv_aload_n hx hb dL_law_393 rfl (lv_at hl 3 rfl) ?_
  obtain ⟨e, bb, fa', H', im', ff', now', before', chg', row', comes', layer', rounds', value', e1, e2, hA, hI'⟩ := zI_removeFact K hK9 hI comes x1 x2 x3 x4 th
  unfold zaph at e1
  refine z_callW (wc := (ao, zoc tt vo) :: wL tt a b d wd fa od hd qc qs bc bs tl rl H q w fr tr g re fi ro im r pk cz lh lp se md ff) (wr := wM tt c now before chg th row comes layer rounds value place places made lq left gone) (As := [.ref (a 0), .int x1, .int x2, .int x3, .int x4, .ref ao]) (rest := []) ⟨hx, hb, hml, hown, hts⟩ hK hN hX hNc hP hD hS hA9 (mL_removeFact l G tt sa hlt H0.size K a b d wd fa od hd qc qs bc bs tl rl H q w fr tr g re fi ro im r pk cz lh lp se md ff x1 x2 x3 x4 ao vo _ e1 bb hA) (vx_cwSW 6 hts gL_law_L_removeFact rfl rfl rfl (by decide +kernel) ⟨Nat.le_of_ble_eq_true rfl, Nat.le_of_ble_eq_true rfl⟩) rfl hl.1 rfl (Nat.le_of_ble_eq_true rfl) dL_law_394 ⟨hc1, hs1⟩ (fun rr u H0 locs hw hP hD hS => ?_)
  obtain ⟨hw1, hw2⟩ := hw
  replace hw1 := hw1.symm; subst hw1
  replace hw2 := hw2.symm; subst hw2
  have hP : va_P G vwCl (wM tt c now before chg th row comes layer rounds value place places made lq left gone ++ ((ao, zoc tt (zout Int32.toInt64 vo e)) :: wL tt a b d wd fa' od hd qc qs bc bs tl rl H' q w fr tr g re fi ro im' r pk cz lh lp se md ff')) H0 := hP
  have hD : va_D (fun q : Nat => s.heap.size ≤ q) (wM tt c now before chg th row comes layer rounds value place places made lq left gone ++ ((ao, zoc tt (zout Int32.toInt64 vo e)) :: wL tt a b d wd fa' od hd qc qs bc bs tl rl H' q w fr tr g re fi ro im' r pk cz lh lp se md ff')) := hD
  refine lv_istore (lv' := [(5, .int bb.2), (0, .ref sb), (1, .ref (a 0)), (2, .ref (c 0)), (3, .ref ao), (4, .int iI)]) hx hb dL_law_397 hl (by decide) rfl (fun ls hl => ?_)
  refine lv_aload_n hx hb dL_law_399 rfl (lv_at hl 3 rfl) ?_
  refine lv_aload_n hx hb dL_law_400 rfl (lv_at hl 1 rfl) ?_
  refine lv_iload hx hb dL_law_401 (lv_at hl 5 rfl) ?_
  refine lv_iconst (v := (1 : Int32)) hx hb dL_law_403 (by decide) ?_
  refine lv_iadd hx hb dL_law_404 ?_
  refine va_sld hx hb hX9 hbl hbA hS (zin_L hi hL hiI 1 (by decide) (1 : Int32) rfl) dL_law_405 ?_
  refine lv_topi (fun x5 ex5 => ?_)
  obtain rfl : x5 = x1 := ex5.trans ex1.symm
  refine lv_aload_n hx hb dL_law_406 rfl (lv_at hl 1 rfl) ?_
  refine lv_iload hx hb dL_law_407 (lv_at hl 5 rfl) ?_
  refine lv_iconst (v := (2 : Int32)) hx hb dL_law_409 (by decide) ?_
  refine lv_iadd hx hb dL_law_410 ?_
  refine va_sld hx hb hX9 hbl hbA hS (zin_L hi hL hiI 2 (by decide) (2 : Int32) rfl) dL_law_411 ?_
  refine lv_topi (fun x6 ex6 => ?_)
  obtain rfl : x6 = x2 := ex6.trans ex2.symm
  refine lv_aload_n hx hb dL_law_412 rfl (lv_at hl 1 rfl) ?_
  refine lv_iload hx hb dL_law_413 (lv_at hl 5 rfl) ?_
  refine lv_iconst (v := (3 : Int32)) hx hb dL_law_415 (by decide) ?_
  refine lv_iadd hx hb dL_law_416 ?_
  refine va_sld hx hb hX9 hbl hbA hS (zin_L hi hL hiI 3 (by decide) (3 : Int32) rfl) dL_law_417 ?_
  refine lv_topi (fun x7 ex7 => ?_)
  obtain rfl : x7 = x3 := ex7.trans ex3.symm
  refine lv_aload_n hx hb dL_law_418 rfl (lv_at hl 1 rfl) ?_
  refine lv_iload hx hb dL_law_419 (lv_at hl 5 rfl) ?_
  refine lv_iconst (v := (4 : Int32)) hx hb dL_law_421 (by decide) ?_
  refine lv_iadd hx hb dL_law_422 ?_
  refine va_sld hx hb hX9 hbl hbA hS (zin_L hi hL hiI 4 (by decide) (4 : Int32) rfl) dL_law_423 ?_
  refine lv_topi (fun x8 ex8 => ?_)
  obtain rfl : x8 = x4 := ex8.trans ex4.symm
  refine z_callVi (wc := wM tt c now before chg th row comes layer rounds value place places made lq left gone) (wr := (ao, zoc tt (zout Int32.toInt64 vo e)) :: wL tt a b d wd fa' od hd qc qs bc bs tl rl H' q w fr tr g re fi ro im' r pk cz lh lp se md ff') (As := [.int x5, .int x6, .int x7, .int x8]) (rest := []) (ci := 11) ⟨hx, hb, hml, hown, hts⟩ hK hN hP hD hS hA9 (nX12_removeFact l G tt H0.size K c now before chg th row comes layer rounds value place places made lq left gone x5 x6 x7 x8 _ e2) (cwV 4 hts gL_law_X12_removeFact rfl rfl rfl (by decide +kernel) ⟨Nat.le_of_ble_eq_true rfl, Nat.le_of_ble_eq_true rfl⟩) rfl rfl rfl hl.1 rfl (Nat.le_of_ble_eq_true rfl) dL_law_424 ⟨hc1, hs1⟩ (fun rr u H0 locs hw hP hD hS => ?_)
  obtain ⟨hw1, hw2⟩ := hw
  replace hw1 := hw1.symm; subst hw1
  replace hw2 := hw2.symm; subst hw2
  have hP : va_P G vwCl (((ao, zoc tt (zout Int32.toInt64 vo e)) :: wL tt a b d wd fa' od hd qc qs bc bs tl rl H' q w fr tr g re fi ro im' r pk cz lh lp se md ff') ++ wM tt c now' before' chg' bb.2 row' comes' layer' rounds' value' place places made lq left gone) H0 := hP
  have hD : va_D (fun q : Nat => s.heap.size ≤ q) (((ao, zoc tt (zout Int32.toInt64 vo e)) :: wL tt a b d wd fa' od hd qc qs bc bs tl rl H' q w fr tr g re fi ro im' r pk cz lh lp se md ff') ++ wM tt c now' before' chg' bb.2 row' comes' layer' rounds' value' place places made lq left gone) := hD
  refine lv_istore (lv' := [(6, .int bb.1), (5, .int bb.2), (0, .ref sb), (1, .ref (a 0)), (2, .ref (c 0)), (3, .ref ao), (4, .int iI)]) hx hb dL_law_427 hl (by decide) rfl (fun ls hl => ?_)
  refine lv_aload_n hx hb dL_law_429 rfl (lv_at hl 4 rfl) ?_
  have hP := zP_perm (List.perm_append_comm (l₁ := (ao, zoc tt (zout Int32.toInt64 vo e)) :: wL tt a b d wd fa' od hd qc qs bc bs tl rl H' q w fr tr g re fi ro im' r pk cz lh lp se md ff') (l₂ := wM tt c now' before' chg' bb.2 row' comes' layer' rounds' value' place places made lq left gone)) hP
  have hD := zD_perm (List.perm_append_comm (l₁ := (ao, zoc tt (zout Int32.toInt64 vo e)) :: wL tt a b d wd fa' od hd qc qs bc bs tl rl H' q w fr tr g re fi ro im' r pk cz lh lp se md ff') (l₂ := wM tt c now' before' chg' bb.2 row' comes' layer' rounds' value' place places made lq left gone)) hD
  refine z_callVi (wc := wM tt c now' before' chg' bb.2 row' comes' layer' rounds' value' place places made lq left gone) (wr := (ao, zoc tt (zout Int32.toInt64 vo e)) :: wL tt a b d wd fa' od hd qc qs bc bs tl rl H' q w fr tr g re fi ro im' r pk cz lh lp se md ff') (As := []) (rest := []) (ci := 11) ⟨hx, hb, hml, hown, hts⟩ hK hN hP hD hS hA9 (nX12_thrown l G tt H0.size c now' before' chg' bb.2 row' comes' layer' rounds' value' place places made lq left gone bb.2 rfl) (cwV 0 hts gL_law_X12_thrown rfl rfl rfl (by decide +kernel) ⟨Nat.le_of_ble_eq_true rfl, Nat.le_of_ble_eq_true rfl⟩) rfl rfl rfl hl.1 rfl (Nat.le_of_ble_eq_true rfl) dL_law_430 ⟨hc1, hs1⟩ (fun rr u H0 locs hw hP hD hS => ?_)
  replace hw := hw.symm; subst hw
  have hP : va_P G vwCl (((ao, zoc tt (zout Int32.toInt64 vo e)) :: wL tt a b d wd fa' od hd qc qs bc bs tl rl H' q w fr tr g re fi ro im' r pk cz lh lp se md ff') ++ wM tt c now' before' chg' bb.2 row' comes' layer' rounds' value' place places made lq left gone) H0 := hP
  have hD : va_D (fun q : Nat => s.heap.size ≤ q) (((ao, zoc tt (zout Int32.toInt64 vo e)) :: wL tt a b d wd fa' od hd qc qs bc bs tl rl H' q w fr tr g re fi ro im' r pk cz lh lp se md ff') ++ wM tt c now' before' chg' bb.2 row' comes' layer' rounds' value' place places made lq left gone) := hD
  refine lv_iload hx hb dL_law_433 (lv_at hl 1 rfl) ?_
  refine lv_icmp_eq (tgt := 440) hx hb dL_law_435 (by decide) (fun _ => ?_) (fun h9 => absurd rfl h9)
  refine lv_iload hx hb dL_law_440 (lv_at hl 1 rfl) ?_
  rcases hA with ⟨k9, hk9, ek, rfl⟩ | ⟨v9, ev, rfl⟩
  · refine lv_if_ne (tgt := 457) hx hb dL_law_442 (by decide) (fun _ => ?_) (fun h9 => absurd h9 (fun h => zcd_ne k9 h))
    refine lv_goto (tgt := 2784) hx hb dL_law_457 (by decide) ?_
    refine z_widen (k := ce + 4) (n := sl + 24) (by omega) (by omega) ?_
    exact kk H0 locs ls ⟨wd, fa', od, hd, qc, qs, bc, bs, tl, rl, H', q, w, fr, tr, g, re, fi, ro, im', r, pk, cz, lh, lp, se, md, ff', now', before', chg', _, row', comes', layer', rounds', value', place, places, made, lq, left, gone, (zout Int32.toInt64 vo e), hI', hP, hD⟩ hS (lv_sub hl [2, 3, 4, 5, 6] rfl)
  · refine lv_if_ne (tgt := 457) hx hb dL_law_442 (by decide) (fun h9 => absurd rfl h9) (fun _ => ?_)
    refine lv_aload_n hx hb dL_law_445 rfl (lv_at hl 5 rfl) ?_
    refine lv_iconst (v := (0 : Int32)) hx hb dL_law_446 (by decide) ?_
    refine va_lald hx hb hK hP 0 1 rfl rfl (inB_vp (by decide)) dL_law_447 ?_
    refine lv_iload hx hb dL_law_448 (lv_at hl 0 rfl) ?_
    refine lv_i2l hx hb dL_law_450 rfl ?_
    refine W.lcmp hx hb dL_law_451 ?_
    refine lv_if_eq (tgt := 457) hx hb dL_law_452 (by decide) (fun _ => ?_) (fun h9 => absurd ((lg_cmp_eq _ _).mpr (by subst ev; exact (zout_at Int32.toInt64 vo v9))) h9)
    refine lv_goto (tgt := 2784) hx hb dL_law_457 (by decide) ?_
    refine z_widen (k := ce + 4) (n := sl + 24) (by omega) (by omega) ?_
    exact kk H0 locs ls ⟨wd, fa', od, hd, qc, qs, bc, bs, tl, rl, H', q, w, fr, tr, g, re, fi, ro, im', r, pk, cz, lh, lp, se, md, ff', now', before', chg', _, row', comes', layer', rounds', value', place, places, made, lq, left, gone, (zout Int32.toInt64 vo e), hI', hP, hD⟩ hS (lv_sub hl [2, 3, 4, 5, 6] rfl)

set_option maxHeartbeats 4000000 in
set_option maxRecDepth 100000 in
theorem zarm_addAtom (K : Nat) (hK9 : 1000000 < K) {p : Program} {l : Launch} {e0 : Env} {s : State} {m : MethodId} {below : List Frame} {meth : Method} {cd : Code} {sb L : Nat} {xs : Nat → Int32} {G : va_G} {tt : Nat → ClassId} {sa : Nat → Nat} (C : zCtx p l s m meth cd sb L xs G tt sa) (a : Nat → Nat) (b : Nat → Nat → Nat) (d : Nat → Nat → Nat → Nat) (c : Nat → Nat) (ao : Nat) {i : Nat} {iI : Int32} (hi : i + 7 ≤ L) (hiI : iI = nI i) {ce sl : Nat} (hce : ce ≤ 600000) (hsl : sl ≤ 7290000) {H0 : Heap} {locs : List Loc} (hw : zWorld G tt a b d c ao (fun q : Nat => s.heap.size ≤ q) H0) (hS : va_S (fun q : Nat => s.heap.size ≤ q) s.heap H0 locs) {ls : Array Slot} (hl : lv_has ls 9 [(0, .ref sb), (1, .ref (a 0)), (2, .ref (c 0)), (3, .ref ao), (4, .int iI)])
    (kk : ∀ (H1 : Heap) (locs1 : List Loc) (ls1 : Array Slot), zWorld G tt a b d c ao (fun q : Nat => s.heap.size ≤ q) H1 → va_S (fun q : Nat => s.heap.size ≤ q) s.heap H1 locs1 → lv_has ls1 9 [(0, .ref sb), (1, .ref (a 0)), (2, .ref (c 0)), (3, .ref ao), (4, .int iI)] → W p l e0 room_1 s m #[Value.ref sb] below meth cd H1 locs1 (ce + 4) (sl + 24) (lw_Z below #[Value.ref sb] s) (F0 m 2784 ls1 [])) :
    W p l e0 room_1 s m #[Value.ref sb] below meth cd H0 locs ce sl (lw_Z below #[Value.ref sb] s) (F0 m 460 ls []) := by
  obtain ⟨wd, fa, od, hd, qc, qs, bc, bs, tl, rl, H, q, w, fr, tr, g, re, fi, ro, im, r, pk, cz, lh, lp, se, md, ff, now, before, chg, th, row, comes, layer, rounds, value, place, places, made, lq, left, gone, vo, hI, hP, hD⟩ := hw
  obtain ⟨hlt, hL, C0, hK, hN, hX, hNc⟩ := C
  obtain ⟨hx, hb, hr, hml, hown, hts0, hX9, hbl, hlocks, hgv⟩ := C0
  have hts : ∀ w ∈ wsL_law, w.before #[Value.ref sb] s = true := fun w h => hts0 w (zL_law w h)
  have hown : s.vm.findClass RL = some m.cls := hown
  have hA9 : ∀ q : Nat, s.heap.size ≤ q → (fun q : Nat => s.heap.size ≤ q) q := fun _ h => h
  have hbA : ¬ (fun q : Nat => s.heap.size ≤ q) sb := Nat.not_le.mpr hbl
  have hc0 : ce ≤ room_1.cells := by show ce ≤ 601024; omega
  have hs0 : sl ≤ room_1.slots := by show sl ≤ 7293034; omega
  have hc1 : ce + 4 ≤ room_1.cells := by show ce + 4 ≤ 601024; omega
  have hs1 : sl + 24 ≤ room_1.slots := by show sl + 24 ≤ 7293034; omega
  refine lv_aload_n hx hb dL_law_460 rfl (lv_at hl 1 rfl) ?_
  refine lv_aload_n hx hb dL_law_461 rfl (lv_at hl 0 rfl) ?_
  refine lv_iload hx hb dL_law_462 (lv_at hl 4 rfl) ?_
  refine lv_iconst (v := (1 : Int32)) hx hb dL_law_464 (by decide) ?_
  refine lv_iadd hx hb dL_law_465 ?_
  refine va_sld hx hb hX9 hbl hbA hS (zin_L hi hL hiI 1 (by decide) (1 : Int32) rfl) dL_law_466 ?_
  refine lv_topi (fun x1 ex1 => ?_)
  refine lv_aload_n hx hb dL_law_467 rfl (lv_at hl 0 rfl) ?_
  refine lv_iload hx hb dL_law_468 (lv_at hl 4 rfl) ?_
  refine lv_iconst (v := (2 : Int32)) hx hb dL_law_470 (by decide) ?_
  refine lv_iadd hx hb dL_law_471 ?_
  refine va_sld hx hb hX9 hbl hbA hS (zin_L hi hL hiI 2 (by decide) (2 : Int32) rfl) dL_law_472 ?_
  refine lv_topi (fun x2 ex2 => ?_)
  refine lv_aload_n hx hb dL_law_473 rfl (lv_at hl 0 rfl) ?_
  refine lv_iload hx hb dL_law_474 (lv_at hl 4 rfl) ?_
  refine lv_iconst (v := (3 : Int32)) hx hb dL_law_476 (by decide) ?_
  refine lv_iadd hx hb dL_law_477 ?_
  refine va_sld hx hb hX9 hbl hbA hS (zin_L hi hL hiI 3 (by decide) (3 : Int32) rfl) dL_law_478 ?_
  refine lv_topi (fun x3 ex3 => ?_)
  refine lv_aload_n hx hb dL_law_479 rfl (lv_at hl 0 rfl) ?_
  refine lv_iload hx hb dL_law_480 (lv_at hl 4 rfl) ?_
  refine lv_iconst (v := (4 : Int32)) hx hb dL_law_482 (by decide) ?_
  refine lv_iadd hx hb dL_law_483 ?_
  refine va_sld hx hb hX9 hbl hbA hS (zin_L hi hL hiI 4 (by decide) (4 : Int32) rfl) dL_law_484 ?_
  refine lv_topi (fun x4 ex4 => ?_)
  refine lv_aload_n hx hb dL_law_485 rfl (lv_at hl 0 rfl) ?_
  refine lv_iload hx hb dL_law_486 (lv_at hl 4 rfl) ?_
  refine lv_iconst (v := (5 : Int32)) hx hb dL_law_488 (by decide) ?_
  refine lv_iadd hx hb dL_law_489 ?_
  refine va_sld hx hb hX9 hbl hbA hS (zin_L hi hL hiI 5 (by decide) (5 : Int32) rfl) dL_law_490 ?_
  refine lv_topi (fun x5 ex5 => ?_)
  refine lv_aload_n hx hb dL_law_491 rfl (lv_at hl 3 rfl) ?_
  obtain ⟨e, bb, qc', qs', H', ff', now', before', chg', e1, e2, hA, hI'⟩ := zI_addAtom K hK9 hI x1 x2 x3 x4 x5 th
  unfold zaph at e1
  refine z_callW (wc := (ao, zoc tt vo) :: wL tt a b d wd fa od hd qc qs bc bs tl rl H q w fr tr g re fi ro im r pk cz lh lp se md ff) (wr := wM tt c now before chg th row comes layer rounds value place places made lq left gone) (As := [.ref (a 0), .int x1, .int x2, .int x3, .int x4, .int x5, .ref ao]) (rest := []) ⟨hx, hb, hml, hown, hts⟩ hK hN hX hNc hP hD hS hA9 (mL_addAtom l G tt sa hlt H0.size K a b d wd fa od hd qc qs bc bs tl rl H q w fr tr g re fi ro im r pk cz lh lp se md ff x1 x2 x3 x4 x5 ao vo _ e1 bb hA) (vx_cwSW 7 hts gL_law_L_addAtom rfl rfl rfl (by decide +kernel) ⟨Nat.le_of_ble_eq_true rfl, Nat.le_of_ble_eq_true rfl⟩) rfl hl.1 rfl (Nat.le_of_ble_eq_true rfl) dL_law_492 ⟨hc1, hs1⟩ (fun rr u H0 locs hw hP hD hS => ?_)
  obtain ⟨hw1, hw2⟩ := hw
  replace hw1 := hw1.symm; subst hw1
  replace hw2 := hw2.symm; subst hw2
  have hP : va_P G vwCl (wM tt c now before chg th row comes layer rounds value place places made lq left gone ++ ((ao, zoc tt (zout Int32.toInt64 vo e)) :: wL tt a b d wd fa od hd qc' qs' bc bs tl rl H' q w fr tr g re fi ro im r pk cz lh lp se md ff')) H0 := hP
  have hD : va_D (fun q : Nat => s.heap.size ≤ q) (wM tt c now before chg th row comes layer rounds value place places made lq left gone ++ ((ao, zoc tt (zout Int32.toInt64 vo e)) :: wL tt a b d wd fa od hd qc' qs' bc bs tl rl H' q w fr tr g re fi ro im r pk cz lh lp se md ff')) := hD
  refine lv_istore (lv' := [(5, .int bb.2), (0, .ref sb), (1, .ref (a 0)), (2, .ref (c 0)), (3, .ref ao), (4, .int iI)]) hx hb dL_law_495 hl (by decide) rfl (fun ls hl => ?_)
  refine lv_aload_n hx hb dL_law_497 rfl (lv_at hl 3 rfl) ?_
  refine lv_aload_n hx hb dL_law_498 rfl (lv_at hl 1 rfl) ?_
  refine lv_iload hx hb dL_law_499 (lv_at hl 5 rfl) ?_
  refine lv_iconst (v := (1 : Int32)) hx hb dL_law_501 (by decide) ?_
  refine lv_iadd hx hb dL_law_502 ?_
  refine va_sld hx hb hX9 hbl hbA hS (zin_L hi hL hiI 1 (by decide) (1 : Int32) rfl) dL_law_503 ?_
  refine lv_topi (fun x6 ex6 => ?_)
  obtain rfl : x6 = x1 := ex6.trans ex1.symm
  refine lv_aload_n hx hb dL_law_504 rfl (lv_at hl 1 rfl) ?_
  refine lv_iload hx hb dL_law_505 (lv_at hl 5 rfl) ?_
  refine lv_iconst (v := (2 : Int32)) hx hb dL_law_507 (by decide) ?_
  refine lv_iadd hx hb dL_law_508 ?_
  refine va_sld hx hb hX9 hbl hbA hS (zin_L hi hL hiI 2 (by decide) (2 : Int32) rfl) dL_law_509 ?_
  refine lv_topi (fun x7 ex7 => ?_)
  obtain rfl : x7 = x2 := ex7.trans ex2.symm
  refine lv_aload_n hx hb dL_law_510 rfl (lv_at hl 1 rfl) ?_
  refine lv_iload hx hb dL_law_511 (lv_at hl 5 rfl) ?_
  refine lv_iconst (v := (3 : Int32)) hx hb dL_law_513 (by decide) ?_
  refine lv_iadd hx hb dL_law_514 ?_
  refine va_sld hx hb hX9 hbl hbA hS (zin_L hi hL hiI 3 (by decide) (3 : Int32) rfl) dL_law_515 ?_
  refine lv_topi (fun x8 ex8 => ?_)
  obtain rfl : x8 = x3 := ex8.trans ex3.symm
  refine lv_aload_n hx hb dL_law_516 rfl (lv_at hl 1 rfl) ?_
  refine lv_iload hx hb dL_law_517 (lv_at hl 5 rfl) ?_
  refine lv_iconst (v := (4 : Int32)) hx hb dL_law_519 (by decide) ?_
  refine lv_iadd hx hb dL_law_520 ?_
  refine va_sld hx hb hX9 hbl hbA hS (zin_L hi hL hiI 4 (by decide) (4 : Int32) rfl) dL_law_521 ?_
  refine lv_topi (fun x9 ex9 => ?_)
  obtain rfl : x9 = x4 := ex9.trans ex4.symm
  refine lv_aload_n hx hb dL_law_522 rfl (lv_at hl 1 rfl) ?_
  refine lv_iload hx hb dL_law_523 (lv_at hl 5 rfl) ?_
  refine lv_iconst (v := (5 : Int32)) hx hb dL_law_525 (by decide) ?_
  refine lv_iadd hx hb dL_law_526 ?_
  refine va_sld hx hb hX9 hbl hbA hS (zin_L hi hL hiI 5 (by decide) (5 : Int32) rfl) dL_law_527 ?_
  refine lv_topi (fun x10 ex10 => ?_)
  obtain rfl : x10 = x5 := ex10.trans ex5.symm
  refine z_callVi (wc := wM tt c now before chg th row comes layer rounds value place places made lq left gone) (wr := (ao, zoc tt (zout Int32.toInt64 vo e)) :: wL tt a b d wd fa od hd qc' qs' bc bs tl rl H' q w fr tr g re fi ro im r pk cz lh lp se md ff') (As := [.int x6, .int x7, .int x8, .int x9, .int x10]) (rest := []) (ci := 11) ⟨hx, hb, hml, hown, hts⟩ hK hN hP hD hS hA9 (nX12_addAtom l G tt H0.size c now before chg th row comes layer rounds value place places made lq left gone x6 x7 x8 x9 x10 _ e2) (cwV 5 hts gL_law_X12_addAtom rfl rfl rfl (by decide +kernel) ⟨Nat.le_of_ble_eq_true rfl, Nat.le_of_ble_eq_true rfl⟩) rfl rfl rfl hl.1 rfl (Nat.le_of_ble_eq_true rfl) dL_law_528 ⟨hc1, hs1⟩ (fun rr u H0 locs hw hP hD hS => ?_)
  obtain ⟨hw1, hw2⟩ := hw
  replace hw1 := hw1.symm; subst hw1
  replace hw2 := hw2.symm; subst hw2
  have hP : va_P G vwCl (((ao, zoc tt (zout Int32.toInt64 vo e)) :: wL tt a b d wd fa od hd qc' qs' bc bs tl rl H' q w fr tr g re fi ro im r pk cz lh lp se md ff') ++ wM tt c now' before' chg' bb.2 row comes layer rounds value place places made lq left gone) H0 := hP
  have hD : va_D (fun q : Nat => s.heap.size ≤ q) (((ao, zoc tt (zout Int32.toInt64 vo e)) :: wL tt a b d wd fa od hd qc' qs' bc bs tl rl H' q w fr tr g re fi ro im r pk cz lh lp se md ff') ++ wM tt c now' before' chg' bb.2 row comes layer rounds value place places made lq left gone) := hD
  refine lv_istore (lv' := [(6, .int bb.1), (5, .int bb.2), (0, .ref sb), (1, .ref (a 0)), (2, .ref (c 0)), (3, .ref ao), (4, .int iI)]) hx hb dL_law_531 hl (by decide) rfl (fun ls hl => ?_)
  refine lv_aload_n hx hb dL_law_533 rfl (lv_at hl 4 rfl) ?_
  have hP := zP_perm (List.perm_append_comm (l₁ := (ao, zoc tt (zout Int32.toInt64 vo e)) :: wL tt a b d wd fa od hd qc' qs' bc bs tl rl H' q w fr tr g re fi ro im r pk cz lh lp se md ff') (l₂ := wM tt c now' before' chg' bb.2 row comes layer rounds value place places made lq left gone)) hP
  have hD := zD_perm (List.perm_append_comm (l₁ := (ao, zoc tt (zout Int32.toInt64 vo e)) :: wL tt a b d wd fa od hd qc' qs' bc bs tl rl H' q w fr tr g re fi ro im r pk cz lh lp se md ff') (l₂ := wM tt c now' before' chg' bb.2 row comes layer rounds value place places made lq left gone)) hD
  refine z_callVi (wc := wM tt c now' before' chg' bb.2 row comes layer rounds value place places made lq left gone) (wr := (ao, zoc tt (zout Int32.toInt64 vo e)) :: wL tt a b d wd fa od hd qc' qs' bc bs tl rl H' q w fr tr g re fi ro im r pk cz lh lp se md ff') (As := []) (rest := []) (ci := 11) ⟨hx, hb, hml, hown, hts⟩ hK hN hP hD hS hA9 (nX12_thrown l G tt H0.size c now' before' chg' bb.2 row comes layer rounds value place places made lq left gone bb.2 rfl) (cwV 0 hts gL_law_X12_thrown rfl rfl rfl (by decide +kernel) ⟨Nat.le_of_ble_eq_true rfl, Nat.le_of_ble_eq_true rfl⟩) rfl rfl rfl hl.1 rfl (Nat.le_of_ble_eq_true rfl) dL_law_534 ⟨hc1, hs1⟩ (fun rr u H0 locs hw hP hD hS => ?_)
  replace hw := hw.symm; subst hw
  have hP : va_P G vwCl (((ao, zoc tt (zout Int32.toInt64 vo e)) :: wL tt a b d wd fa od hd qc' qs' bc bs tl rl H' q w fr tr g re fi ro im r pk cz lh lp se md ff') ++ wM tt c now' before' chg' bb.2 row comes layer rounds value place places made lq left gone) H0 := hP
  have hD : va_D (fun q : Nat => s.heap.size ≤ q) (((ao, zoc tt (zout Int32.toInt64 vo e)) :: wL tt a b d wd fa od hd qc' qs' bc bs tl rl H' q w fr tr g re fi ro im r pk cz lh lp se md ff') ++ wM tt c now' before' chg' bb.2 row comes layer rounds value place places made lq left gone) := hD
  refine lv_iload hx hb dL_law_537 (lv_at hl 1 rfl) ?_
  refine lv_icmp_eq (tgt := 544) hx hb dL_law_539 (by decide) (fun _ => ?_) (fun h9 => absurd rfl h9)
  refine lv_iload hx hb dL_law_544 (lv_at hl 1 rfl) ?_
  rcases hA with ⟨k9, hk9, ek, rfl⟩ | ⟨v9, ev, rfl⟩
  · refine lv_if_ne (tgt := 561) hx hb dL_law_546 (by decide) (fun _ => ?_) (fun h9 => absurd h9 (fun h => zcd_ne k9 h))
    refine lv_goto (tgt := 2784) hx hb dL_law_561 (by decide) ?_
    refine z_widen (k := ce + 4) (n := sl + 24) (by omega) (by omega) ?_
    exact kk H0 locs ls ⟨wd, fa, od, hd, qc', qs', bc, bs, tl, rl, H', q, w, fr, tr, g, re, fi, ro, im, r, pk, cz, lh, lp, se, md, ff', now', before', chg', _, row, comes, layer, rounds, value, place, places, made, lq, left, gone, (zout Int32.toInt64 vo e), hI', hP, hD⟩ hS (lv_sub hl [2, 3, 4, 5, 6] rfl)
  · refine lv_if_ne (tgt := 561) hx hb dL_law_546 (by decide) (fun h9 => absurd rfl h9) (fun _ => ?_)
    refine lv_aload_n hx hb dL_law_549 rfl (lv_at hl 5 rfl) ?_
    refine lv_iconst (v := (0 : Int32)) hx hb dL_law_550 (by decide) ?_
    refine va_lald hx hb hK hP 0 1 rfl rfl (inB_vp (by decide)) dL_law_551 ?_
    refine lv_iload hx hb dL_law_552 (lv_at hl 0 rfl) ?_
    refine lv_i2l hx hb dL_law_554 rfl ?_
    refine W.lcmp hx hb dL_law_555 ?_
    refine lv_if_eq (tgt := 561) hx hb dL_law_556 (by decide) (fun _ => ?_) (fun h9 => absurd ((lg_cmp_eq _ _).mpr (by subst ev; exact (zout_at Int32.toInt64 vo v9))) h9)
    refine lv_goto (tgt := 2784) hx hb dL_law_561 (by decide) ?_
    refine z_widen (k := ce + 4) (n := sl + 24) (by omega) (by omega) ?_
    exact kk H0 locs ls ⟨wd, fa, od, hd, qc', qs', bc, bs, tl, rl, H', q, w, fr, tr, g, re, fi, ro, im, r, pk, cz, lh, lp, se, md, ff', now', before', chg', _, row, comes, layer, rounds, value, place, places, made, lq, left, gone, (zout Int32.toInt64 vo e), hI', hP, hD⟩ hS (lv_sub hl [2, 3, 4, 5, 6] rfl)

set_option maxHeartbeats 4000000 in
set_option maxRecDepth 100000 in
theorem zarm_clearQuery (K : Nat) (hK9 : 1000000 < K) {p : Program} {l : Launch} {e0 : Env} {s : State} {m : MethodId} {below : List Frame} {meth : Method} {cd : Code} {sb L : Nat} {xs : Nat → Int32} {G : va_G} {tt : Nat → ClassId} {sa : Nat → Nat} (C : zCtx p l s m meth cd sb L xs G tt sa) (a : Nat → Nat) (b : Nat → Nat → Nat) (d : Nat → Nat → Nat → Nat) (c : Nat → Nat) (ao : Nat) {i : Nat} {iI : Int32} (hi : i + 7 ≤ L) (hiI : iI = nI i) {ce sl : Nat} (hce : ce ≤ 600000) (hsl : sl ≤ 7290000) {H0 : Heap} {locs : List Loc} (hw : zWorld G tt a b d c ao (fun q : Nat => s.heap.size ≤ q) H0) (hS : va_S (fun q : Nat => s.heap.size ≤ q) s.heap H0 locs) {ls : Array Slot} (hl : lv_has ls 9 [(0, .ref sb), (1, .ref (a 0)), (2, .ref (c 0)), (3, .ref ao), (4, .int iI)])
    (kk : ∀ (H1 : Heap) (locs1 : List Loc) (ls1 : Array Slot), zWorld G tt a b d c ao (fun q : Nat => s.heap.size ≤ q) H1 → va_S (fun q : Nat => s.heap.size ≤ q) s.heap H1 locs1 → lv_has ls1 9 [(0, .ref sb), (1, .ref (a 0)), (2, .ref (c 0)), (3, .ref ao), (4, .int iI)] → W p l e0 room_1 s m #[Value.ref sb] below meth cd H1 locs1 (ce + 4) (sl + 24) (lw_Z below #[Value.ref sb] s) (F0 m 2784 ls1 [])) :
    W p l e0 room_1 s m #[Value.ref sb] below meth cd H0 locs ce sl (lw_Z below #[Value.ref sb] s) (F0 m 564 ls []) := by
  obtain ⟨wd, fa, od, hd, qc, qs, bc, bs, tl, rl, H, q, w, fr, tr, g, re, fi, ro, im, r, pk, cz, lh, lp, se, md, ff, now, before, chg, th, row, comes, layer, rounds, value, place, places, made, lq, left, gone, vo, hI, hP, hD⟩ := hw
  obtain ⟨hlt, hL, C0, hK, hN, hX, hNc⟩ := C
  obtain ⟨hx, hb, hr, hml, hown, hts0, hX9, hbl, hlocks, hgv⟩ := C0
  have hts : ∀ w ∈ wsL_law, w.before #[Value.ref sb] s = true := fun w h => hts0 w (zL_law w h)
  have hown : s.vm.findClass RL = some m.cls := hown
  have hA9 : ∀ q : Nat, s.heap.size ≤ q → (fun q : Nat => s.heap.size ≤ q) q := fun _ h => h
  have hbA : ¬ (fun q : Nat => s.heap.size ≤ q) sb := Nat.not_le.mpr hbl
  have hc0 : ce ≤ room_1.cells := by show ce ≤ 601024; omega
  have hs0 : sl ≤ room_1.slots := by show sl ≤ 7293034; omega
  have hc1 : ce + 1 ≤ room_1.cells := by show ce + 1 ≤ 601024; omega
  have hs1 : sl + 6 ≤ room_1.slots := by show sl + 6 ≤ 7293034; omega
  refine lv_aload_n hx hb dL_law_564 rfl (lv_at hl 1 rfl) ?_
  refine lv_aload_n hx hb dL_law_565 rfl (lv_at hl 0 rfl) ?_
  refine lv_iload hx hb dL_law_566 (lv_at hl 4 rfl) ?_
  refine lv_iconst (v := (1 : Int32)) hx hb dL_law_568 (by decide) ?_
  refine lv_iadd hx hb dL_law_569 ?_
  refine va_sld hx hb hX9 hbl hbA hS (zin_L hi hL hiI 1 (by decide) (1 : Int32) rfl) dL_law_570 ?_
  refine lv_topi (fun x1 ex1 => ?_)
  refine lv_aload_n hx hb dL_law_571 rfl (lv_at hl 3 rfl) ?_
  obtain ⟨e, bb, qs', H', ff', now', before', chg', e1, e2, hA, hI'⟩ := zI_clearQuery K hK9 hI x1 th
  unfold zaph at e1
  refine z_callW (wc := (ao, zoc tt vo) :: wL tt a b d wd fa od hd qc qs bc bs tl rl H q w fr tr g re fi ro im r pk cz lh lp se md ff) (wr := wM tt c now before chg th row comes layer rounds value place places made lq left gone) (As := [.ref (a 0), .int x1, .ref ao]) (rest := []) ⟨hx, hb, hml, hown, hts⟩ hK hN hX hNc hP hD hS hA9 (mL_clearQuery l G tt sa hlt H0.size K a b d wd fa od hd qc qs bc bs tl rl H q w fr tr g re fi ro im r pk cz lh lp se md ff x1 ao vo _ e1 bb hA) (vx_cwSW 3 hts gL_law_L_clearQuery rfl rfl rfl (by decide +kernel) ⟨Nat.le_of_ble_eq_true rfl, Nat.le_of_ble_eq_true rfl⟩) rfl hl.1 rfl (Nat.le_of_ble_eq_true rfl) dL_law_572 ⟨hc1, hs1⟩ (fun rr u H0 locs hw hP hD hS => ?_)
  obtain ⟨hw1, hw2⟩ := hw
  replace hw1 := hw1.symm; subst hw1
  replace hw2 := hw2.symm; subst hw2
  have hP : va_P G vwCl (wM tt c now before chg th row comes layer rounds value place places made lq left gone ++ ((ao, zoc tt (zout Int32.toInt64 vo e)) :: wL tt a b d wd fa od hd qc qs' bc bs tl rl H' q w fr tr g re fi ro im r pk cz lh lp se md ff')) H0 := hP
  have hD : va_D (fun q : Nat => s.heap.size ≤ q) (wM tt c now before chg th row comes layer rounds value place places made lq left gone ++ ((ao, zoc tt (zout Int32.toInt64 vo e)) :: wL tt a b d wd fa od hd qc qs' bc bs tl rl H' q w fr tr g re fi ro im r pk cz lh lp se md ff')) := hD
  refine lv_istore (lv' := [(5, .int bb.2), (0, .ref sb), (1, .ref (a 0)), (2, .ref (c 0)), (3, .ref ao), (4, .int iI)]) hx hb dL_law_575 hl (by decide) rfl (fun ls hl => ?_)
  refine lv_aload_n hx hb dL_law_577 rfl (lv_at hl 3 rfl) ?_
  refine lv_aload_n hx hb dL_law_578 rfl (lv_at hl 1 rfl) ?_
  refine lv_iload hx hb dL_law_579 (lv_at hl 5 rfl) ?_
  refine lv_iconst (v := (1 : Int32)) hx hb dL_law_581 (by decide) ?_
  refine lv_iadd hx hb dL_law_582 ?_
  refine va_sld hx hb hX9 hbl hbA hS (zin_L hi hL hiI 1 (by decide) (1 : Int32) rfl) dL_law_583 ?_
  refine lv_topi (fun x2 ex2 => ?_)
  obtain rfl : x2 = x1 := ex2.trans ex1.symm
  refine z_callVi (wc := wM tt c now before chg th row comes layer rounds value place places made lq left gone) (wr := (ao, zoc tt (zout Int32.toInt64 vo e)) :: wL tt a b d wd fa od hd qc qs' bc bs tl rl H' q w fr tr g re fi ro im r pk cz lh lp se md ff') (As := [.int x2]) (rest := []) (ci := 11) ⟨hx, hb, hml, hown, hts⟩ hK hN hP hD hS hA9 (nX12_clearQuery l G tt H0.size c now before chg th row comes layer rounds value place places made lq left gone x2 _ e2) (cwV 1 hts gL_law_X12_clearQuery rfl rfl rfl (by decide +kernel) ⟨Nat.le_of_ble_eq_true rfl, Nat.le_of_ble_eq_true rfl⟩) rfl rfl rfl hl.1 rfl (Nat.le_of_ble_eq_true rfl) dL_law_584 ⟨hc1, hs1⟩ (fun rr u H0 locs hw hP hD hS => ?_)
  obtain ⟨hw1, hw2⟩ := hw
  replace hw1 := hw1.symm; subst hw1
  replace hw2 := hw2.symm; subst hw2
  have hP : va_P G vwCl (((ao, zoc tt (zout Int32.toInt64 vo e)) :: wL tt a b d wd fa od hd qc qs' bc bs tl rl H' q w fr tr g re fi ro im r pk cz lh lp se md ff') ++ wM tt c now' before' chg' bb.2 row comes layer rounds value place places made lq left gone) H0 := hP
  have hD : va_D (fun q : Nat => s.heap.size ≤ q) (((ao, zoc tt (zout Int32.toInt64 vo e)) :: wL tt a b d wd fa od hd qc qs' bc bs tl rl H' q w fr tr g re fi ro im r pk cz lh lp se md ff') ++ wM tt c now' before' chg' bb.2 row comes layer rounds value place places made lq left gone) := hD
  refine lv_istore (lv' := [(6, .int bb.1), (5, .int bb.2), (0, .ref sb), (1, .ref (a 0)), (2, .ref (c 0)), (3, .ref ao), (4, .int iI)]) hx hb dL_law_587 hl (by decide) rfl (fun ls hl => ?_)
  refine lv_aload_n hx hb dL_law_589 rfl (lv_at hl 4 rfl) ?_
  have hP := zP_perm (List.perm_append_comm (l₁ := (ao, zoc tt (zout Int32.toInt64 vo e)) :: wL tt a b d wd fa od hd qc qs' bc bs tl rl H' q w fr tr g re fi ro im r pk cz lh lp se md ff') (l₂ := wM tt c now' before' chg' bb.2 row comes layer rounds value place places made lq left gone)) hP
  have hD := zD_perm (List.perm_append_comm (l₁ := (ao, zoc tt (zout Int32.toInt64 vo e)) :: wL tt a b d wd fa od hd qc qs' bc bs tl rl H' q w fr tr g re fi ro im r pk cz lh lp se md ff') (l₂ := wM tt c now' before' chg' bb.2 row comes layer rounds value place places made lq left gone)) hD
  refine z_callVi (wc := wM tt c now' before' chg' bb.2 row comes layer rounds value place places made lq left gone) (wr := (ao, zoc tt (zout Int32.toInt64 vo e)) :: wL tt a b d wd fa od hd qc qs' bc bs tl rl H' q w fr tr g re fi ro im r pk cz lh lp se md ff') (As := []) (rest := []) (ci := 11) ⟨hx, hb, hml, hown, hts⟩ hK hN hP hD hS hA9 (nX12_thrown l G tt H0.size c now' before' chg' bb.2 row comes layer rounds value place places made lq left gone bb.2 rfl) (cwV 0 hts gL_law_X12_thrown rfl rfl rfl (by decide +kernel) ⟨Nat.le_of_ble_eq_true rfl, Nat.le_of_ble_eq_true rfl⟩) rfl rfl rfl hl.1 rfl (Nat.le_of_ble_eq_true rfl) dL_law_590 ⟨hc1, hs1⟩ (fun rr u H0 locs hw hP hD hS => ?_)
  replace hw := hw.symm; subst hw
  have hP : va_P G vwCl (((ao, zoc tt (zout Int32.toInt64 vo e)) :: wL tt a b d wd fa od hd qc qs' bc bs tl rl H' q w fr tr g re fi ro im r pk cz lh lp se md ff') ++ wM tt c now' before' chg' bb.2 row comes layer rounds value place places made lq left gone) H0 := hP
  have hD : va_D (fun q : Nat => s.heap.size ≤ q) (((ao, zoc tt (zout Int32.toInt64 vo e)) :: wL tt a b d wd fa od hd qc qs' bc bs tl rl H' q w fr tr g re fi ro im r pk cz lh lp se md ff') ++ wM tt c now' before' chg' bb.2 row comes layer rounds value place places made lq left gone) := hD
  refine lv_iload hx hb dL_law_593 (lv_at hl 1 rfl) ?_
  refine lv_icmp_eq (tgt := 600) hx hb dL_law_595 (by decide) (fun _ => ?_) (fun h9 => absurd rfl h9)
  refine lv_iload hx hb dL_law_600 (lv_at hl 1 rfl) ?_
  rcases hA with ⟨k9, hk9, ek, rfl⟩ | ⟨v9, ev, rfl⟩
  · refine lv_if_ne (tgt := 617) hx hb dL_law_602 (by decide) (fun _ => ?_) (fun h9 => absurd h9 (fun h => zcd_ne k9 h))
    refine lv_goto (tgt := 2784) hx hb dL_law_617 (by decide) ?_
    refine z_widen (k := ce + 4) (n := sl + 24) (by omega) (by omega) ?_
    exact kk H0 locs ls ⟨wd, fa, od, hd, qc, qs', bc, bs, tl, rl, H', q, w, fr, tr, g, re, fi, ro, im, r, pk, cz, lh, lp, se, md, ff', now', before', chg', _, row, comes, layer, rounds, value, place, places, made, lq, left, gone, (zout Int32.toInt64 vo e), hI', hP, hD⟩ hS (lv_sub hl [2, 3, 4, 5, 6] rfl)
  · refine lv_if_ne (tgt := 617) hx hb dL_law_602 (by decide) (fun h9 => absurd rfl h9) (fun _ => ?_)
    refine lv_aload_n hx hb dL_law_605 rfl (lv_at hl 5 rfl) ?_
    refine lv_iconst (v := (0 : Int32)) hx hb dL_law_606 (by decide) ?_
    refine va_lald hx hb hK hP 0 1 rfl rfl (inB_vp (by decide)) dL_law_607 ?_
    refine lv_iload hx hb dL_law_608 (lv_at hl 0 rfl) ?_
    refine lv_i2l hx hb dL_law_610 rfl ?_
    refine W.lcmp hx hb dL_law_611 ?_
    refine lv_if_eq (tgt := 617) hx hb dL_law_612 (by decide) (fun _ => ?_) (fun h9 => absurd ((lg_cmp_eq _ _).mpr (by subst ev; exact (zout_at Int32.toInt64 vo v9))) h9)
    refine lv_goto (tgt := 2784) hx hb dL_law_617 (by decide) ?_
    refine z_widen (k := ce + 4) (n := sl + 24) (by omega) (by omega) ?_
    exact kk H0 locs ls ⟨wd, fa, od, hd, qc, qs', bc, bs, tl, rl, H', q, w, fr, tr, g, re, fi, ro, im, r, pk, cz, lh, lp, se, md, ff', now', before', chg', _, row, comes, layer, rounds, value, place, places, made, lq, left, gone, (zout Int32.toInt64 vo e), hI', hP, hD⟩ hS (lv_sub hl [2, 3, 4, 5, 6] rfl)

set_option maxHeartbeats 4000000 in
set_option maxRecDepth 100000 in
theorem zarm_setOrder (K : Nat) (hK9 : 1000000 < K) {p : Program} {l : Launch} {e0 : Env} {s : State} {m : MethodId} {below : List Frame} {meth : Method} {cd : Code} {sb L : Nat} {xs : Nat → Int32} {G : va_G} {tt : Nat → ClassId} {sa : Nat → Nat} (C : zCtx p l s m meth cd sb L xs G tt sa) (a : Nat → Nat) (b : Nat → Nat → Nat) (d : Nat → Nat → Nat → Nat) (c : Nat → Nat) (ao : Nat) {i : Nat} {iI : Int32} (hi : i + 7 ≤ L) (hiI : iI = nI i) {ce sl : Nat} (hce : ce ≤ 600000) (hsl : sl ≤ 7290000) {H0 : Heap} {locs : List Loc} (hw : zWorld G tt a b d c ao (fun q : Nat => s.heap.size ≤ q) H0) (hS : va_S (fun q : Nat => s.heap.size ≤ q) s.heap H0 locs) {ls : Array Slot} (hl : lv_has ls 9 [(0, .ref sb), (1, .ref (a 0)), (2, .ref (c 0)), (3, .ref ao), (4, .int iI)])
    (kk : ∀ (H1 : Heap) (locs1 : List Loc) (ls1 : Array Slot), zWorld G tt a b d c ao (fun q : Nat => s.heap.size ≤ q) H1 → va_S (fun q : Nat => s.heap.size ≤ q) s.heap H1 locs1 → lv_has ls1 9 [(0, .ref sb), (1, .ref (a 0)), (2, .ref (c 0)), (3, .ref ao), (4, .int iI)] → W p l e0 room_1 s m #[Value.ref sb] below meth cd H1 locs1 (ce + 4) (sl + 24) (lw_Z below #[Value.ref sb] s) (F0 m 2784 ls1 [])) :
    W p l e0 room_1 s m #[Value.ref sb] below meth cd H0 locs ce sl (lw_Z below #[Value.ref sb] s) (F0 m 620 ls []) := by
  obtain ⟨wd, fa, od, hd, qc, qs, bc, bs, tl, rl, H, q, w, fr, tr, g, re, fi, ro, im, r, pk, cz, lh, lp, se, md, ff, now, before, chg, th, row, comes, layer, rounds, value, place, places, made, lq, left, gone, vo, hI, hP, hD⟩ := hw
  obtain ⟨hlt, hL, C0, hK, hN, hX, hNc⟩ := C
  obtain ⟨hx, hb, hr, hml, hown, hts0, hX9, hbl, hlocks, hgv⟩ := C0
  have hts : ∀ w ∈ wsL_law, w.before #[Value.ref sb] s = true := fun w h => hts0 w (zL_law w h)
  have hown : s.vm.findClass RL = some m.cls := hown
  have hA9 : ∀ q : Nat, s.heap.size ≤ q → (fun q : Nat => s.heap.size ≤ q) q := fun _ h => h
  have hbA : ¬ (fun q : Nat => s.heap.size ≤ q) sb := Nat.not_le.mpr hbl
  have hc0 : ce ≤ room_1.cells := by show ce ≤ 601024; omega
  have hs0 : sl ≤ room_1.slots := by show sl ≤ 7293034; omega
  have hc1 : ce + 2 ≤ room_1.cells := by show ce + 2 ≤ 601024; omega
  have hs1 : sl + 12 ≤ room_1.slots := by show sl + 12 ≤ 7293034; omega
  refine lv_aload_n hx hb dL_law_620 rfl (lv_at hl 1 rfl) ?_
  refine lv_aload_n hx hb dL_law_621 rfl (lv_at hl 0 rfl) ?_
  refine lv_iload hx hb dL_law_622 (lv_at hl 4 rfl) ?_
  refine lv_iconst (v := (1 : Int32)) hx hb dL_law_624 (by decide) ?_
  refine lv_iadd hx hb dL_law_625 ?_
  refine va_sld hx hb hX9 hbl hbA hS (zin_L hi hL hiI 1 (by decide) (1 : Int32) rfl) dL_law_626 ?_
  refine lv_topi (fun x1 ex1 => ?_)
  refine lv_aload_n hx hb dL_law_627 rfl (lv_at hl 0 rfl) ?_
  refine lv_iload hx hb dL_law_628 (lv_at hl 4 rfl) ?_
  refine lv_iconst (v := (2 : Int32)) hx hb dL_law_630 (by decide) ?_
  refine lv_iadd hx hb dL_law_631 ?_
  refine va_sld hx hb hX9 hbl hbA hS (zin_L hi hL hiI 2 (by decide) (2 : Int32) rfl) dL_law_632 ?_
  refine lv_topi (fun x2 ex2 => ?_)
  refine lv_aload_n hx hb dL_law_633 rfl (lv_at hl 3 rfl) ?_
  obtain ⟨e, bb, od', H', ff', now', before', chg', e1, e2, hA, hI'⟩ := zI_setOrder K hK9 hI x1 x2 th
  unfold zaph at e1
  refine z_callW (wc := (ao, zoc tt vo) :: wL tt a b d wd fa od hd qc qs bc bs tl rl H q w fr tr g re fi ro im r pk cz lh lp se md ff) (wr := wM tt c now before chg th row comes layer rounds value place places made lq left gone) (As := [.ref (a 0), .int x1, .int x2, .ref ao]) (rest := []) ⟨hx, hb, hml, hown, hts⟩ hK hN hX hNc hP hD hS hA9 (mL_setOrder l G tt sa hlt H0.size K a b d wd fa od hd qc qs bc bs tl rl H q w fr tr g re fi ro im r pk cz lh lp se md ff x1 x2 ao vo _ e1 bb hA) (vx_cwSW 4 hts gL_law_L_setOrder rfl rfl rfl (by decide +kernel) ⟨Nat.le_of_ble_eq_true rfl, Nat.le_of_ble_eq_true rfl⟩) rfl hl.1 rfl (Nat.le_of_ble_eq_true rfl) dL_law_634 ⟨hc1, hs1⟩ (fun rr u H0 locs hw hP hD hS => ?_)
  obtain ⟨hw1, hw2⟩ := hw
  replace hw1 := hw1.symm; subst hw1
  replace hw2 := hw2.symm; subst hw2
  have hP : va_P G vwCl (wM tt c now before chg th row comes layer rounds value place places made lq left gone ++ ((ao, zoc tt (zout Int32.toInt64 vo e)) :: wL tt a b d wd fa od' hd qc qs bc bs tl rl H' q w fr tr g re fi ro im r pk cz lh lp se md ff')) H0 := hP
  have hD : va_D (fun q : Nat => s.heap.size ≤ q) (wM tt c now before chg th row comes layer rounds value place places made lq left gone ++ ((ao, zoc tt (zout Int32.toInt64 vo e)) :: wL tt a b d wd fa od' hd qc qs bc bs tl rl H' q w fr tr g re fi ro im r pk cz lh lp se md ff')) := hD
  refine lv_istore (lv' := [(5, .int bb.2), (0, .ref sb), (1, .ref (a 0)), (2, .ref (c 0)), (3, .ref ao), (4, .int iI)]) hx hb dL_law_637 hl (by decide) rfl (fun ls hl => ?_)
  refine lv_aload_n hx hb dL_law_639 rfl (lv_at hl 3 rfl) ?_
  refine lv_aload_n hx hb dL_law_640 rfl (lv_at hl 1 rfl) ?_
  refine lv_iload hx hb dL_law_641 (lv_at hl 5 rfl) ?_
  refine lv_iconst (v := (1 : Int32)) hx hb dL_law_643 (by decide) ?_
  refine lv_iadd hx hb dL_law_644 ?_
  refine va_sld hx hb hX9 hbl hbA hS (zin_L hi hL hiI 1 (by decide) (1 : Int32) rfl) dL_law_645 ?_
  refine lv_topi (fun x3 ex3 => ?_)
  obtain rfl : x3 = x1 := ex3.trans ex1.symm
  refine lv_aload_n hx hb dL_law_646 rfl (lv_at hl 1 rfl) ?_
  refine lv_iload hx hb dL_law_647 (lv_at hl 5 rfl) ?_
  refine lv_iconst (v := (2 : Int32)) hx hb dL_law_649 (by decide) ?_
  refine lv_iadd hx hb dL_law_650 ?_
  refine va_sld hx hb hX9 hbl hbA hS (zin_L hi hL hiI 2 (by decide) (2 : Int32) rfl) dL_law_651 ?_
  refine lv_topi (fun x4 ex4 => ?_)
  obtain rfl : x4 = x2 := ex4.trans ex2.symm
  refine z_callVi (wc := wM tt c now before chg th row comes layer rounds value place places made lq left gone) (wr := (ao, zoc tt (zout Int32.toInt64 vo e)) :: wL tt a b d wd fa od' hd qc qs bc bs tl rl H' q w fr tr g re fi ro im r pk cz lh lp se md ff') (As := [.int x3, .int x4]) (rest := []) (ci := 11) ⟨hx, hb, hml, hown, hts⟩ hK hN hP hD hS hA9 (nX12_setOrder l G tt H0.size K c now before chg th row comes layer rounds value place places made lq left gone x3 x4 _ e2) (cwV 2 hts gL_law_X12_setOrder rfl rfl rfl (by decide +kernel) ⟨Nat.le_of_ble_eq_true rfl, Nat.le_of_ble_eq_true rfl⟩) rfl rfl rfl hl.1 rfl (Nat.le_of_ble_eq_true rfl) dL_law_652 ⟨hc1, hs1⟩ (fun rr u H0 locs hw hP hD hS => ?_)
  obtain ⟨hw1, hw2⟩ := hw
  replace hw1 := hw1.symm; subst hw1
  replace hw2 := hw2.symm; subst hw2
  have hP : va_P G vwCl (((ao, zoc tt (zout Int32.toInt64 vo e)) :: wL tt a b d wd fa od' hd qc qs bc bs tl rl H' q w fr tr g re fi ro im r pk cz lh lp se md ff') ++ wM tt c now' before' chg' bb.2 row comes layer rounds value place places made lq left gone) H0 := hP
  have hD : va_D (fun q : Nat => s.heap.size ≤ q) (((ao, zoc tt (zout Int32.toInt64 vo e)) :: wL tt a b d wd fa od' hd qc qs bc bs tl rl H' q w fr tr g re fi ro im r pk cz lh lp se md ff') ++ wM tt c now' before' chg' bb.2 row comes layer rounds value place places made lq left gone) := hD
  refine lv_istore (lv' := [(6, .int bb.1), (5, .int bb.2), (0, .ref sb), (1, .ref (a 0)), (2, .ref (c 0)), (3, .ref ao), (4, .int iI)]) hx hb dL_law_655 hl (by decide) rfl (fun ls hl => ?_)
  refine lv_aload_n hx hb dL_law_657 rfl (lv_at hl 4 rfl) ?_
  have hP := zP_perm (List.perm_append_comm (l₁ := (ao, zoc tt (zout Int32.toInt64 vo e)) :: wL tt a b d wd fa od' hd qc qs bc bs tl rl H' q w fr tr g re fi ro im r pk cz lh lp se md ff') (l₂ := wM tt c now' before' chg' bb.2 row comes layer rounds value place places made lq left gone)) hP
  have hD := zD_perm (List.perm_append_comm (l₁ := (ao, zoc tt (zout Int32.toInt64 vo e)) :: wL tt a b d wd fa od' hd qc qs bc bs tl rl H' q w fr tr g re fi ro im r pk cz lh lp se md ff') (l₂ := wM tt c now' before' chg' bb.2 row comes layer rounds value place places made lq left gone)) hD
  refine z_callVi (wc := wM tt c now' before' chg' bb.2 row comes layer rounds value place places made lq left gone) (wr := (ao, zoc tt (zout Int32.toInt64 vo e)) :: wL tt a b d wd fa od' hd qc qs bc bs tl rl H' q w fr tr g re fi ro im r pk cz lh lp se md ff') (As := []) (rest := []) (ci := 11) ⟨hx, hb, hml, hown, hts⟩ hK hN hP hD hS hA9 (nX12_thrown l G tt H0.size c now' before' chg' bb.2 row comes layer rounds value place places made lq left gone bb.2 rfl) (cwV 0 hts gL_law_X12_thrown rfl rfl rfl (by decide +kernel) ⟨Nat.le_of_ble_eq_true rfl, Nat.le_of_ble_eq_true rfl⟩) rfl rfl rfl hl.1 rfl (Nat.le_of_ble_eq_true rfl) dL_law_658 ⟨hc1, hs1⟩ (fun rr u H0 locs hw hP hD hS => ?_)
  replace hw := hw.symm; subst hw
  have hP : va_P G vwCl (((ao, zoc tt (zout Int32.toInt64 vo e)) :: wL tt a b d wd fa od' hd qc qs bc bs tl rl H' q w fr tr g re fi ro im r pk cz lh lp se md ff') ++ wM tt c now' before' chg' bb.2 row comes layer rounds value place places made lq left gone) H0 := hP
  have hD : va_D (fun q : Nat => s.heap.size ≤ q) (((ao, zoc tt (zout Int32.toInt64 vo e)) :: wL tt a b d wd fa od' hd qc qs bc bs tl rl H' q w fr tr g re fi ro im r pk cz lh lp se md ff') ++ wM tt c now' before' chg' bb.2 row comes layer rounds value place places made lq left gone) := hD
  refine lv_iload hx hb dL_law_661 (lv_at hl 1 rfl) ?_
  refine lv_icmp_eq (tgt := 668) hx hb dL_law_663 (by decide) (fun _ => ?_) (fun h9 => absurd rfl h9)
  refine lv_iload hx hb dL_law_668 (lv_at hl 1 rfl) ?_
  rcases hA with ⟨k9, hk9, ek, rfl⟩ | ⟨v9, ev, rfl⟩
  · refine lv_if_ne (tgt := 685) hx hb dL_law_670 (by decide) (fun _ => ?_) (fun h9 => absurd h9 (fun h => zcd_ne k9 h))
    refine lv_goto (tgt := 2784) hx hb dL_law_685 (by decide) ?_
    refine z_widen (k := ce + 4) (n := sl + 24) (by omega) (by omega) ?_
    exact kk H0 locs ls ⟨wd, fa, od', hd, qc, qs, bc, bs, tl, rl, H', q, w, fr, tr, g, re, fi, ro, im, r, pk, cz, lh, lp, se, md, ff', now', before', chg', _, row, comes, layer, rounds, value, place, places, made, lq, left, gone, (zout Int32.toInt64 vo e), hI', hP, hD⟩ hS (lv_sub hl [2, 3, 4, 5, 6] rfl)
  · refine lv_if_ne (tgt := 685) hx hb dL_law_670 (by decide) (fun h9 => absurd rfl h9) (fun _ => ?_)
    refine lv_aload_n hx hb dL_law_673 rfl (lv_at hl 5 rfl) ?_
    refine lv_iconst (v := (0 : Int32)) hx hb dL_law_674 (by decide) ?_
    refine va_lald hx hb hK hP 0 1 rfl rfl (inB_vp (by decide)) dL_law_675 ?_
    refine lv_iload hx hb dL_law_676 (lv_at hl 0 rfl) ?_
    refine lv_i2l hx hb dL_law_678 rfl ?_
    refine W.lcmp hx hb dL_law_679 ?_
    refine lv_if_eq (tgt := 685) hx hb dL_law_680 (by decide) (fun _ => ?_) (fun h9 => absurd ((lg_cmp_eq _ _).mpr (by subst ev; exact (zout_at Int32.toInt64 vo v9))) h9)
    refine lv_goto (tgt := 2784) hx hb dL_law_685 (by decide) ?_
    refine z_widen (k := ce + 4) (n := sl + 24) (by omega) (by omega) ?_
    exact kk H0 locs ls ⟨wd, fa, od', hd, qc, qs, bc, bs, tl, rl, H', q, w, fr, tr, g, re, fi, ro, im, r, pk, cz, lh, lp, se, md, ff', now', before', chg', _, row, comes, layer, rounds, value, place, places, made, lq, left, gone, (zout Int32.toInt64 vo e), hI', hP, hD⟩ hS (lv_sub hl [2, 3, 4, 5, 6] rfl)

set_option maxHeartbeats 4000000 in
set_option maxRecDepth 100000 in
theorem zarm_clearIdle (K : Nat) (hK9 : 1000000 < K) {p : Program} {l : Launch} {e0 : Env} {s : State} {m : MethodId} {below : List Frame} {meth : Method} {cd : Code} {sb L : Nat} {xs : Nat → Int32} {G : va_G} {tt : Nat → ClassId} {sa : Nat → Nat} (C : zCtx p l s m meth cd sb L xs G tt sa) (a : Nat → Nat) (b : Nat → Nat → Nat) (d : Nat → Nat → Nat → Nat) (c : Nat → Nat) (ao : Nat) {i : Nat} {iI : Int32} (hi : i + 7 ≤ L) (hiI : iI = nI i) {ce sl : Nat} (hce : ce ≤ 600000) (hsl : sl ≤ 7290000) {H0 : Heap} {locs : List Loc} (hw : zWorld G tt a b d c ao (fun q : Nat => s.heap.size ≤ q) H0) (hS : va_S (fun q : Nat => s.heap.size ≤ q) s.heap H0 locs) {ls : Array Slot} (hl : lv_has ls 9 [(0, .ref sb), (1, .ref (a 0)), (2, .ref (c 0)), (3, .ref ao), (4, .int iI)])
    (kk : ∀ (H1 : Heap) (locs1 : List Loc) (ls1 : Array Slot), zWorld G tt a b d c ao (fun q : Nat => s.heap.size ≤ q) H1 → va_S (fun q : Nat => s.heap.size ≤ q) s.heap H1 locs1 → lv_has ls1 9 [(0, .ref sb), (1, .ref (a 0)), (2, .ref (c 0)), (3, .ref ao), (4, .int iI)] → W p l e0 room_1 s m #[Value.ref sb] below meth cd H1 locs1 (ce + 4) (sl + 24) (lw_Z below #[Value.ref sb] s) (F0 m 2784 ls1 [])) :
    W p l e0 room_1 s m #[Value.ref sb] below meth cd H0 locs ce sl (lw_Z below #[Value.ref sb] s) (F0 m 688 ls []) := by
  obtain ⟨wd, fa, od, hd, qc, qs, bc, bs, tl, rl, H, q, w, fr, tr, g, re, fi, ro, im, r, pk, cz, lh, lp, se, md, ff, now, before, chg, th, row, comes, layer, rounds, value, place, places, made, lq, left, gone, vo, hI, hP, hD⟩ := hw
  obtain ⟨hlt, hL, C0, hK, hN, hX, hNc⟩ := C
  obtain ⟨hx, hb, hr, hml, hown, hts0, hX9, hbl, hlocks, hgv⟩ := C0
  have hts : ∀ w ∈ wsL_law, w.before #[Value.ref sb] s = true := fun w h => hts0 w (zL_law w h)
  have hown : s.vm.findClass RL = some m.cls := hown
  have hA9 : ∀ q : Nat, s.heap.size ≤ q → (fun q : Nat => s.heap.size ≤ q) q := fun _ h => h
  have hbA : ¬ (fun q : Nat => s.heap.size ≤ q) sb := Nat.not_le.mpr hbl
  have hc0 : ce ≤ room_1.cells := by show ce ≤ 601024; omega
  have hs0 : sl ≤ room_1.slots := by show sl ≤ 7293034; omega
  have hc1 : ce + 2 ≤ room_1.cells := by show ce + 2 ≤ 601024; omega
  have hs1 : sl + 12 ≤ room_1.slots := by show sl + 12 ≤ 7293034; omega
  refine lv_aload_n hx hb dL_law_688 rfl (lv_at hl 1 rfl) ?_
  refine lv_aload_n hx hb dL_law_689 rfl (lv_at hl 0 rfl) ?_
  refine lv_iload hx hb dL_law_690 (lv_at hl 4 rfl) ?_
  refine lv_iconst (v := (1 : Int32)) hx hb dL_law_692 (by decide) ?_
  refine lv_iadd hx hb dL_law_693 ?_
  refine va_sld hx hb hX9 hbl hbA hS (zin_L hi hL hiI 1 (by decide) (1 : Int32) rfl) dL_law_694 ?_
  refine lv_topi (fun x1 ex1 => ?_)
  refine lv_aload_n hx hb dL_law_695 rfl (lv_at hl 0 rfl) ?_
  refine lv_iload hx hb dL_law_696 (lv_at hl 4 rfl) ?_
  refine lv_iconst (v := (2 : Int32)) hx hb dL_law_698 (by decide) ?_
  refine lv_iadd hx hb dL_law_699 ?_
  refine va_sld hx hb hX9 hbl hbA hS (zin_L hi hL hiI 2 (by decide) (2 : Int32) rfl) dL_law_700 ?_
  refine lv_topi (fun x2 ex2 => ?_)
  refine lv_aload_n hx hb dL_law_701 rfl (lv_at hl 3 rfl) ?_
  obtain ⟨e, bb, fa', H', q', w', fr', g', re', fi', ro', im', r', pk', md', ff', now', before', chg', row', comes', layer', rounds', value', place', places', made', e1, e2, hA, hI'⟩ := zI_clearIdle K hK9 hI q fr pk md comes place made places x1 x2 th
  unfold zapr zapg zaph at e1
  refine z_callW (wc := (ao, zoc tt vo) :: wL tt a b d wd fa od hd qc qs bc bs tl rl H q w fr tr g re fi ro im r pk cz lh lp se md ff) (wr := wM tt c now before chg th row comes layer rounds value place places made lq left gone) (As := [.ref (a 0), .int x1, .int x2, .ref ao]) (rest := []) ⟨hx, hb, hml, hown, hts⟩ hK hN hX hNc hP hD hS hA9 (mL_clearIdle l G tt sa hlt H0.size K a b d wd fa od hd qc qs bc bs tl rl H q w fr tr g re fi ro im r pk cz lh lp se md ff x1 x2 ao vo _ e1 bb hA) (vx_cwSW 4 hts gL_law_L_clearIdle rfl rfl rfl (by decide +kernel) ⟨Nat.le_of_ble_eq_true rfl, Nat.le_of_ble_eq_true rfl⟩) rfl hl.1 rfl (Nat.le_of_ble_eq_true rfl) dL_law_702 ⟨hc1, hs1⟩ (fun rr u H0 locs hw hP hD hS => ?_)
  obtain ⟨hw1, hw2⟩ := hw
  replace hw1 := hw1.symm; subst hw1
  replace hw2 := hw2.symm; subst hw2
  have hP : va_P G vwCl (wM tt c now before chg th row comes layer rounds value place places made lq left gone ++ ((ao, zoc tt (zout Int32.toInt64 vo e)) :: wL tt a b d wd fa' od hd qc qs bc bs tl rl H' q' w' fr' tr g' re' fi' ro' im' r' pk' cz lh lp se md' ff')) H0 := hP
  have hD : va_D (fun q : Nat => s.heap.size ≤ q) (wM tt c now before chg th row comes layer rounds value place places made lq left gone ++ ((ao, zoc tt (zout Int32.toInt64 vo e)) :: wL tt a b d wd fa' od hd qc qs bc bs tl rl H' q' w' fr' tr g' re' fi' ro' im' r' pk' cz lh lp se md' ff')) := hD
  refine lv_istore (lv' := [(5, .int bb.2), (0, .ref sb), (1, .ref (a 0)), (2, .ref (c 0)), (3, .ref ao), (4, .int iI)]) hx hb dL_law_705 hl (by decide) rfl (fun ls hl => ?_)
  refine lv_aload_n hx hb dL_law_707 rfl (lv_at hl 3 rfl) ?_
  refine lv_aload_n hx hb dL_law_708 rfl (lv_at hl 1 rfl) ?_
  refine lv_iload hx hb dL_law_709 (lv_at hl 5 rfl) ?_
  refine lv_iconst (v := (1 : Int32)) hx hb dL_law_711 (by decide) ?_
  refine lv_iadd hx hb dL_law_712 ?_
  refine va_sld hx hb hX9 hbl hbA hS (zin_L hi hL hiI 1 (by decide) (1 : Int32) rfl) dL_law_713 ?_
  refine lv_topi (fun x3 ex3 => ?_)
  obtain rfl : x3 = x1 := ex3.trans ex1.symm
  refine lv_aload_n hx hb dL_law_714 rfl (lv_at hl 1 rfl) ?_
  refine lv_iload hx hb dL_law_715 (lv_at hl 5 rfl) ?_
  refine lv_iconst (v := (2 : Int32)) hx hb dL_law_717 (by decide) ?_
  refine lv_iadd hx hb dL_law_718 ?_
  refine va_sld hx hb hX9 hbl hbA hS (zin_L hi hL hiI 2 (by decide) (2 : Int32) rfl) dL_law_719 ?_
  refine lv_topi (fun x4 ex4 => ?_)
  obtain rfl : x4 = x2 := ex4.trans ex2.symm
  refine z_callVi (wc := wM tt c now before chg th row comes layer rounds value place places made lq left gone) (wr := (ao, zoc tt (zout Int32.toInt64 vo e)) :: wL tt a b d wd fa' od hd qc qs bc bs tl rl H' q' w' fr' tr g' re' fi' ro' im' r' pk' cz lh lp se md' ff') (As := [.int x3, .int x4]) (rest := []) (ci := 11) ⟨hx, hb, hml, hown, hts⟩ hK hN hP hD hS hA9 (nX12_clearIdle l G tt H0.size K c now before chg th row comes layer rounds value place places made lq left gone x3 x4 _ e2) (cwV 2 hts gL_law_X12_clearIdle rfl rfl rfl (by decide +kernel) ⟨Nat.le_of_ble_eq_true rfl, Nat.le_of_ble_eq_true rfl⟩) rfl rfl rfl hl.1 rfl (Nat.le_of_ble_eq_true rfl) dL_law_720 ⟨hc1, hs1⟩ (fun rr u H0 locs hw hP hD hS => ?_)
  obtain ⟨hw1, hw2⟩ := hw
  replace hw1 := hw1.symm; subst hw1
  replace hw2 := hw2.symm; subst hw2
  have hP : va_P G vwCl (((ao, zoc tt (zout Int32.toInt64 vo e)) :: wL tt a b d wd fa' od hd qc qs bc bs tl rl H' q' w' fr' tr g' re' fi' ro' im' r' pk' cz lh lp se md' ff') ++ wM tt c now' before' chg' bb.2 row' comes' layer' rounds' value' place' places' made' lq left gone) H0 := hP
  have hD : va_D (fun q : Nat => s.heap.size ≤ q) (((ao, zoc tt (zout Int32.toInt64 vo e)) :: wL tt a b d wd fa' od hd qc qs bc bs tl rl H' q' w' fr' tr g' re' fi' ro' im' r' pk' cz lh lp se md' ff') ++ wM tt c now' before' chg' bb.2 row' comes' layer' rounds' value' place' places' made' lq left gone) := hD
  refine lv_istore (lv' := [(6, .int bb.1), (5, .int bb.2), (0, .ref sb), (1, .ref (a 0)), (2, .ref (c 0)), (3, .ref ao), (4, .int iI)]) hx hb dL_law_723 hl (by decide) rfl (fun ls hl => ?_)
  refine lv_aload_n hx hb dL_law_725 rfl (lv_at hl 4 rfl) ?_
  have hP := zP_perm (List.perm_append_comm (l₁ := (ao, zoc tt (zout Int32.toInt64 vo e)) :: wL tt a b d wd fa' od hd qc qs bc bs tl rl H' q' w' fr' tr g' re' fi' ro' im' r' pk' cz lh lp se md' ff') (l₂ := wM tt c now' before' chg' bb.2 row' comes' layer' rounds' value' place' places' made' lq left gone)) hP
  have hD := zD_perm (List.perm_append_comm (l₁ := (ao, zoc tt (zout Int32.toInt64 vo e)) :: wL tt a b d wd fa' od hd qc qs bc bs tl rl H' q' w' fr' tr g' re' fi' ro' im' r' pk' cz lh lp se md' ff') (l₂ := wM tt c now' before' chg' bb.2 row' comes' layer' rounds' value' place' places' made' lq left gone)) hD
  refine z_callVi (wc := wM tt c now' before' chg' bb.2 row' comes' layer' rounds' value' place' places' made' lq left gone) (wr := (ao, zoc tt (zout Int32.toInt64 vo e)) :: wL tt a b d wd fa' od hd qc qs bc bs tl rl H' q' w' fr' tr g' re' fi' ro' im' r' pk' cz lh lp se md' ff') (As := []) (rest := []) (ci := 11) ⟨hx, hb, hml, hown, hts⟩ hK hN hP hD hS hA9 (nX12_thrown l G tt H0.size c now' before' chg' bb.2 row' comes' layer' rounds' value' place' places' made' lq left gone bb.2 rfl) (cwV 0 hts gL_law_X12_thrown rfl rfl rfl (by decide +kernel) ⟨Nat.le_of_ble_eq_true rfl, Nat.le_of_ble_eq_true rfl⟩) rfl rfl rfl hl.1 rfl (Nat.le_of_ble_eq_true rfl) dL_law_726 ⟨hc1, hs1⟩ (fun rr u H0 locs hw hP hD hS => ?_)
  replace hw := hw.symm; subst hw
  have hP : va_P G vwCl (((ao, zoc tt (zout Int32.toInt64 vo e)) :: wL tt a b d wd fa' od hd qc qs bc bs tl rl H' q' w' fr' tr g' re' fi' ro' im' r' pk' cz lh lp se md' ff') ++ wM tt c now' before' chg' bb.2 row' comes' layer' rounds' value' place' places' made' lq left gone) H0 := hP
  have hD : va_D (fun q : Nat => s.heap.size ≤ q) (((ao, zoc tt (zout Int32.toInt64 vo e)) :: wL tt a b d wd fa' od hd qc qs bc bs tl rl H' q' w' fr' tr g' re' fi' ro' im' r' pk' cz lh lp se md' ff') ++ wM tt c now' before' chg' bb.2 row' comes' layer' rounds' value' place' places' made' lq left gone) := hD
  refine lv_iload hx hb dL_law_729 (lv_at hl 1 rfl) ?_
  refine lv_icmp_eq (tgt := 736) hx hb dL_law_731 (by decide) (fun _ => ?_) (fun h9 => absurd rfl h9)
  refine lv_iload hx hb dL_law_736 (lv_at hl 1 rfl) ?_
  rcases hA with ⟨k9, hk9, ek, rfl⟩ | ⟨v9, ev, rfl⟩
  · refine lv_if_ne (tgt := 753) hx hb dL_law_738 (by decide) (fun _ => ?_) (fun h9 => absurd h9 (fun h => zcd_ne k9 h))
    refine lv_goto (tgt := 2784) hx hb dL_law_753 (by decide) ?_
    refine z_widen (k := ce + 4) (n := sl + 24) (by omega) (by omega) ?_
    exact kk H0 locs ls ⟨wd, fa', od, hd, qc, qs, bc, bs, tl, rl, H', q', w', fr', tr, g', re', fi', ro', im', r', pk', cz, lh, lp, se, md', ff', now', before', chg', _, row', comes', layer', rounds', value', place', places', made', lq, left, gone, (zout Int32.toInt64 vo e), hI', hP, hD⟩ hS (lv_sub hl [2, 3, 4, 5, 6] rfl)
  · refine lv_if_ne (tgt := 753) hx hb dL_law_738 (by decide) (fun h9 => absurd rfl h9) (fun _ => ?_)
    refine lv_aload_n hx hb dL_law_741 rfl (lv_at hl 5 rfl) ?_
    refine lv_iconst (v := (0 : Int32)) hx hb dL_law_742 (by decide) ?_
    refine va_lald hx hb hK hP 0 1 rfl rfl (inB_vp (by decide)) dL_law_743 ?_
    refine lv_iload hx hb dL_law_744 (lv_at hl 0 rfl) ?_
    refine lv_i2l hx hb dL_law_746 rfl ?_
    refine W.lcmp hx hb dL_law_747 ?_
    refine lv_if_eq (tgt := 753) hx hb dL_law_748 (by decide) (fun _ => ?_) (fun h9 => absurd ((lg_cmp_eq _ _).mpr (by subst ev; exact (zout_at Int32.toInt64 vo v9))) h9)
    refine lv_goto (tgt := 2784) hx hb dL_law_753 (by decide) ?_
    refine z_widen (k := ce + 4) (n := sl + 24) (by omega) (by omega) ?_
    exact kk H0 locs ls ⟨wd, fa', od, hd, qc, qs, bc, bs, tl, rl, H', q', w', fr', tr, g', re', fi', ro', im', r', pk', cz, lh, lp, se, md', ff', now', before', chg', _, row', comes', layer', rounds', value', place', places', made', lq, left, gone, (zout Int32.toInt64 vo e), hI', hP, hD⟩ hS (lv_sub hl [2, 3, 4, 5, 6] rfl)

set_option maxHeartbeats 4000000 in
set_option maxRecDepth 100000 in
theorem zarm_addRule (K : Nat) (hK9 : 1000000 < K) {p : Program} {l : Launch} {e0 : Env} {s : State} {m : MethodId} {below : List Frame} {meth : Method} {cd : Code} {sb L : Nat} {xs : Nat → Int32} {G : va_G} {tt : Nat → ClassId} {sa : Nat → Nat} (C : zCtx p l s m meth cd sb L xs G tt sa) (a : Nat → Nat) (b : Nat → Nat → Nat) (d : Nat → Nat → Nat → Nat) (c : Nat → Nat) (ao : Nat) {i : Nat} {iI : Int32} (hi : i + 7 ≤ L) (hiI : iI = nI i) {ce sl : Nat} (hce : ce ≤ 600000) (hsl : sl ≤ 7290000) {H0 : Heap} {locs : List Loc} (hw : zWorld G tt a b d c ao (fun q : Nat => s.heap.size ≤ q) H0) (hS : va_S (fun q : Nat => s.heap.size ≤ q) s.heap H0 locs) {ls : Array Slot} (hl : lv_has ls 9 [(0, .ref sb), (1, .ref (a 0)), (2, .ref (c 0)), (3, .ref ao), (4, .int iI)])
    (kk : ∀ (H1 : Heap) (locs1 : List Loc) (ls1 : Array Slot), zWorld G tt a b d c ao (fun q : Nat => s.heap.size ≤ q) H1 → va_S (fun q : Nat => s.heap.size ≤ q) s.heap H1 locs1 → lv_has ls1 9 [(0, .ref sb), (1, .ref (a 0)), (2, .ref (c 0)), (3, .ref ao), (4, .int iI)] → W p l e0 room_1 s m #[Value.ref sb] below meth cd H1 locs1 (ce + 4) (sl + 24) (lw_Z below #[Value.ref sb] s) (F0 m 2784 ls1 [])) :
    W p l e0 room_1 s m #[Value.ref sb] below meth cd H0 locs ce sl (lw_Z below #[Value.ref sb] s) (F0 m 756 ls []) := by
  obtain ⟨wd, fa, od, hd, qc, qs, bc, bs, tl, rl, H, q, w, fr, tr, g, re, fi, ro, im, r, pk, cz, lh, lp, se, md, ff, now, before, chg, th, row, comes, layer, rounds, value, place, places, made, lq, left, gone, vo, hI, hP, hD⟩ := hw
  obtain ⟨hlt, hL, C0, hK, hN, hX, hNc⟩ := C
  obtain ⟨hx, hb, hr, hml, hown, hts0, hX9, hbl, hlocks, hgv⟩ := C0
  have hts : ∀ w ∈ wsL_law, w.before #[Value.ref sb] s = true := fun w h => hts0 w (zL_law w h)
  have hown : s.vm.findClass RL = some m.cls := hown
  have hA9 : ∀ q : Nat, s.heap.size ≤ q → (fun q : Nat => s.heap.size ≤ q) q := fun _ h => h
  have hbA : ¬ (fun q : Nat => s.heap.size ≤ q) sb := Nat.not_le.mpr hbl
  have hc0 : ce ≤ room_1.cells := by show ce ≤ 601024; omega
  have hs0 : sl ≤ room_1.slots := by show sl ≤ 7293034; omega
  have hc1 : ce + 3 ≤ room_1.cells := by show ce + 3 ≤ 601024; omega
  have hs1 : sl + 18 ≤ room_1.slots := by show sl + 18 ≤ 7293034; omega
  refine lv_aload_n hx hb dL_law_756 rfl (lv_at hl 1 rfl) ?_
  refine lv_aload_n hx hb dL_law_757 rfl (lv_at hl 0 rfl) ?_
  refine lv_iload hx hb dL_law_758 (lv_at hl 4 rfl) ?_
  refine lv_iconst (v := (1 : Int32)) hx hb dL_law_760 (by decide) ?_
  refine lv_iadd hx hb dL_law_761 ?_
  refine va_sld hx hb hX9 hbl hbA hS (zin_L hi hL hiI 1 (by decide) (1 : Int32) rfl) dL_law_762 ?_
  refine lv_topi (fun x1 ex1 => ?_)
  refine lv_aload_n hx hb dL_law_763 rfl (lv_at hl 0 rfl) ?_
  refine lv_iload hx hb dL_law_764 (lv_at hl 4 rfl) ?_
  refine lv_iconst (v := (2 : Int32)) hx hb dL_law_766 (by decide) ?_
  refine lv_iadd hx hb dL_law_767 ?_
  refine va_sld hx hb hX9 hbl hbA hS (zin_L hi hL hiI 2 (by decide) (2 : Int32) rfl) dL_law_768 ?_
  refine lv_topi (fun x2 ex2 => ?_)
  refine lv_aload_n hx hb dL_law_769 rfl (lv_at hl 0 rfl) ?_
  refine lv_iload hx hb dL_law_770 (lv_at hl 4 rfl) ?_
  refine lv_iconst (v := (3 : Int32)) hx hb dL_law_772 (by decide) ?_
  refine lv_iadd hx hb dL_law_773 ?_
  refine va_sld hx hb hX9 hbl hbA hS (zin_L hi hL hiI 3 (by decide) (3 : Int32) rfl) dL_law_774 ?_
  refine lv_topi (fun x3 ex3 => ?_)
  refine lv_aload_n hx hb dL_law_775 rfl (lv_at hl 0 rfl) ?_
  refine lv_iload hx hb dL_law_776 (lv_at hl 4 rfl) ?_
  refine lv_iconst (v := (4 : Int32)) hx hb dL_law_778 (by decide) ?_
  refine lv_iadd hx hb dL_law_779 ?_
  refine va_sld hx hb hX9 hbl hbA hS (zin_L hi hL hiI 4 (by decide) (4 : Int32) rfl) dL_law_780 ?_
  refine lv_topi (fun x4 ex4 => ?_)
  refine lv_aload_n hx hb dL_law_781 rfl (lv_at hl 3 rfl) ?_
  obtain ⟨e, bb, hd', bs', rl', H', im', ff', now', before', chg', row', comes', layer', rounds', value', e1, e2, hA, hI'⟩ := zI_addRule K hK9 hI comes x1 x2 x3 x4 th
  unfold zaph at e1
  refine z_callW (wc := (ao, zoc tt vo) :: wL tt a b d wd fa od hd qc qs bc bs tl rl H q w fr tr g re fi ro im r pk cz lh lp se md ff) (wr := wM tt c now before chg th row comes layer rounds value place places made lq left gone) (As := [.ref (a 0), .int x1, .int x2, .int x3, .int x4, .ref ao]) (rest := []) ⟨hx, hb, hml, hown, hts⟩ hK hN hX hNc hP hD hS hA9 (mL_addRule l G tt sa hlt H0.size K a b d wd fa od hd qc qs bc bs tl rl H q w fr tr g re fi ro im r pk cz lh lp se md ff x1 x2 x3 x4 ao vo _ e1 bb hA) (vx_cwSW 6 hts gL_law_L_addRule rfl rfl rfl (by decide +kernel) ⟨Nat.le_of_ble_eq_true rfl, Nat.le_of_ble_eq_true rfl⟩) rfl hl.1 rfl (Nat.le_of_ble_eq_true rfl) dL_law_782 ⟨hc1, hs1⟩ (fun rr u H0 locs hw hP hD hS => ?_)
  obtain ⟨hw1, hw2⟩ := hw
  replace hw1 := hw1.symm; subst hw1
  replace hw2 := hw2.symm; subst hw2
  have hP : va_P G vwCl (wM tt c now before chg th row comes layer rounds value place places made lq left gone ++ ((ao, zoc tt (zout Int32.toInt64 vo e)) :: wL tt a b d wd fa od hd' qc qs bc bs' tl rl' H' q w fr tr g re fi ro im' r pk cz lh lp se md ff')) H0 := hP
  have hD : va_D (fun q : Nat => s.heap.size ≤ q) (wM tt c now before chg th row comes layer rounds value place places made lq left gone ++ ((ao, zoc tt (zout Int32.toInt64 vo e)) :: wL tt a b d wd fa od hd' qc qs bc bs' tl rl' H' q w fr tr g re fi ro im' r pk cz lh lp se md ff')) := hD
  refine lv_istore (lv' := [(5, .int bb.2), (0, .ref sb), (1, .ref (a 0)), (2, .ref (c 0)), (3, .ref ao), (4, .int iI)]) hx hb dL_law_785 hl (by decide) rfl (fun ls hl => ?_)
  refine lv_aload_n hx hb dL_law_787 rfl (lv_at hl 3 rfl) ?_
  refine lv_aload_n hx hb dL_law_788 rfl (lv_at hl 1 rfl) ?_
  refine lv_iload hx hb dL_law_789 (lv_at hl 5 rfl) ?_
  refine lv_iconst (v := (1 : Int32)) hx hb dL_law_791 (by decide) ?_
  refine lv_iadd hx hb dL_law_792 ?_
  refine va_sld hx hb hX9 hbl hbA hS (zin_L hi hL hiI 1 (by decide) (1 : Int32) rfl) dL_law_793 ?_
  refine lv_topi (fun x5 ex5 => ?_)
  obtain rfl : x5 = x1 := ex5.trans ex1.symm
  refine lv_aload_n hx hb dL_law_794 rfl (lv_at hl 1 rfl) ?_
  refine lv_iload hx hb dL_law_795 (lv_at hl 5 rfl) ?_
  refine lv_iconst (v := (2 : Int32)) hx hb dL_law_797 (by decide) ?_
  refine lv_iadd hx hb dL_law_798 ?_
  refine va_sld hx hb hX9 hbl hbA hS (zin_L hi hL hiI 2 (by decide) (2 : Int32) rfl) dL_law_799 ?_
  refine lv_topi (fun x6 ex6 => ?_)
  obtain rfl : x6 = x2 := ex6.trans ex2.symm
  refine lv_aload_n hx hb dL_law_800 rfl (lv_at hl 1 rfl) ?_
  refine lv_iload hx hb dL_law_801 (lv_at hl 5 rfl) ?_
  refine lv_iconst (v := (3 : Int32)) hx hb dL_law_803 (by decide) ?_
  refine lv_iadd hx hb dL_law_804 ?_
  refine va_sld hx hb hX9 hbl hbA hS (zin_L hi hL hiI 3 (by decide) (3 : Int32) rfl) dL_law_805 ?_
  refine lv_topi (fun x7 ex7 => ?_)
  obtain rfl : x7 = x3 := ex7.trans ex3.symm
  refine lv_aload_n hx hb dL_law_806 rfl (lv_at hl 1 rfl) ?_
  refine lv_iload hx hb dL_law_807 (lv_at hl 5 rfl) ?_
  refine lv_iconst (v := (4 : Int32)) hx hb dL_law_809 (by decide) ?_
  refine lv_iadd hx hb dL_law_810 ?_
  refine va_sld hx hb hX9 hbl hbA hS (zin_L hi hL hiI 4 (by decide) (4 : Int32) rfl) dL_law_811 ?_
  refine lv_topi (fun x8 ex8 => ?_)
  obtain rfl : x8 = x4 := ex8.trans ex4.symm
  refine z_callVi (wc := wM tt c now before chg th row comes layer rounds value place places made lq left gone) (wr := (ao, zoc tt (zout Int32.toInt64 vo e)) :: wL tt a b d wd fa od hd' qc qs bc bs' tl rl' H' q w fr tr g re fi ro im' r pk cz lh lp se md ff') (As := [.int x5, .int x6, .int x7, .int x8]) (rest := []) (ci := 11) ⟨hx, hb, hml, hown, hts⟩ hK hN hP hD hS hA9 (nX12_addRule l G tt H0.size K c now before chg th row comes layer rounds value place places made lq left gone x5 x6 x7 x8 _ e2) (cwV 4 hts gL_law_X12_addRule rfl rfl rfl (by decide +kernel) ⟨Nat.le_of_ble_eq_true rfl, Nat.le_of_ble_eq_true rfl⟩) rfl rfl rfl hl.1 rfl (Nat.le_of_ble_eq_true rfl) dL_law_812 ⟨hc1, hs1⟩ (fun rr u H0 locs hw hP hD hS => ?_)
  obtain ⟨hw1, hw2⟩ := hw
  replace hw1 := hw1.symm; subst hw1
  replace hw2 := hw2.symm; subst hw2
  have hP : va_P G vwCl (((ao, zoc tt (zout Int32.toInt64 vo e)) :: wL tt a b d wd fa od hd' qc qs bc bs' tl rl' H' q w fr tr g re fi ro im' r pk cz lh lp se md ff') ++ wM tt c now' before' chg' bb.2 row' comes' layer' rounds' value' place places made lq left gone) H0 := hP
  have hD : va_D (fun q : Nat => s.heap.size ≤ q) (((ao, zoc tt (zout Int32.toInt64 vo e)) :: wL tt a b d wd fa od hd' qc qs bc bs' tl rl' H' q w fr tr g re fi ro im' r pk cz lh lp se md ff') ++ wM tt c now' before' chg' bb.2 row' comes' layer' rounds' value' place places made lq left gone) := hD
  refine lv_istore (lv' := [(6, .int bb.1), (5, .int bb.2), (0, .ref sb), (1, .ref (a 0)), (2, .ref (c 0)), (3, .ref ao), (4, .int iI)]) hx hb dL_law_815 hl (by decide) rfl (fun ls hl => ?_)
  refine lv_aload_n hx hb dL_law_817 rfl (lv_at hl 4 rfl) ?_
  have hP := zP_perm (List.perm_append_comm (l₁ := (ao, zoc tt (zout Int32.toInt64 vo e)) :: wL tt a b d wd fa od hd' qc qs bc bs' tl rl' H' q w fr tr g re fi ro im' r pk cz lh lp se md ff') (l₂ := wM tt c now' before' chg' bb.2 row' comes' layer' rounds' value' place places made lq left gone)) hP
  have hD := zD_perm (List.perm_append_comm (l₁ := (ao, zoc tt (zout Int32.toInt64 vo e)) :: wL tt a b d wd fa od hd' qc qs bc bs' tl rl' H' q w fr tr g re fi ro im' r pk cz lh lp se md ff') (l₂ := wM tt c now' before' chg' bb.2 row' comes' layer' rounds' value' place places made lq left gone)) hD
  refine z_callVi (wc := wM tt c now' before' chg' bb.2 row' comes' layer' rounds' value' place places made lq left gone) (wr := (ao, zoc tt (zout Int32.toInt64 vo e)) :: wL tt a b d wd fa od hd' qc qs bc bs' tl rl' H' q w fr tr g re fi ro im' r pk cz lh lp se md ff') (As := []) (rest := []) (ci := 11) ⟨hx, hb, hml, hown, hts⟩ hK hN hP hD hS hA9 (nX12_thrown l G tt H0.size c now' before' chg' bb.2 row' comes' layer' rounds' value' place places made lq left gone bb.2 rfl) (cwV 0 hts gL_law_X12_thrown rfl rfl rfl (by decide +kernel) ⟨Nat.le_of_ble_eq_true rfl, Nat.le_of_ble_eq_true rfl⟩) rfl rfl rfl hl.1 rfl (Nat.le_of_ble_eq_true rfl) dL_law_818 ⟨hc1, hs1⟩ (fun rr u H0 locs hw hP hD hS => ?_)
  replace hw := hw.symm; subst hw
  have hP : va_P G vwCl (((ao, zoc tt (zout Int32.toInt64 vo e)) :: wL tt a b d wd fa od hd' qc qs bc bs' tl rl' H' q w fr tr g re fi ro im' r pk cz lh lp se md ff') ++ wM tt c now' before' chg' bb.2 row' comes' layer' rounds' value' place places made lq left gone) H0 := hP
  have hD : va_D (fun q : Nat => s.heap.size ≤ q) (((ao, zoc tt (zout Int32.toInt64 vo e)) :: wL tt a b d wd fa od hd' qc qs bc bs' tl rl' H' q w fr tr g re fi ro im' r pk cz lh lp se md ff') ++ wM tt c now' before' chg' bb.2 row' comes' layer' rounds' value' place places made lq left gone) := hD
  refine lv_iload hx hb dL_law_821 (lv_at hl 1 rfl) ?_
  refine lv_icmp_eq (tgt := 828) hx hb dL_law_823 (by decide) (fun _ => ?_) (fun h9 => absurd rfl h9)
  refine lv_iload hx hb dL_law_828 (lv_at hl 1 rfl) ?_
  rcases hA with ⟨k9, hk9, ek, rfl⟩ | ⟨v9, ev, rfl⟩
  · refine lv_if_ne (tgt := 845) hx hb dL_law_830 (by decide) (fun _ => ?_) (fun h9 => absurd h9 (fun h => zcd_ne k9 h))
    refine lv_goto (tgt := 2784) hx hb dL_law_845 (by decide) ?_
    refine z_widen (k := ce + 4) (n := sl + 24) (by omega) (by omega) ?_
    exact kk H0 locs ls ⟨wd, fa, od, hd', qc, qs, bc, bs', tl, rl', H', q, w, fr, tr, g, re, fi, ro, im', r, pk, cz, lh, lp, se, md, ff', now', before', chg', _, row', comes', layer', rounds', value', place, places, made, lq, left, gone, (zout Int32.toInt64 vo e), hI', hP, hD⟩ hS (lv_sub hl [2, 3, 4, 5, 6] rfl)
  · refine lv_if_ne (tgt := 845) hx hb dL_law_830 (by decide) (fun h9 => absurd rfl h9) (fun _ => ?_)
    refine lv_aload_n hx hb dL_law_833 rfl (lv_at hl 5 rfl) ?_
    refine lv_iconst (v := (0 : Int32)) hx hb dL_law_834 (by decide) ?_
    refine va_lald hx hb hK hP 0 1 rfl rfl (inB_vp (by decide)) dL_law_835 ?_
    refine lv_iload hx hb dL_law_836 (lv_at hl 0 rfl) ?_
    refine lv_i2l hx hb dL_law_838 rfl ?_
    refine W.lcmp hx hb dL_law_839 ?_
    refine lv_if_eq (tgt := 845) hx hb dL_law_840 (by decide) (fun _ => ?_) (fun h9 => absurd ((lg_cmp_eq _ _).mpr (by subst ev; exact (zout_at Int32.toInt64 vo v9))) h9)
    refine lv_goto (tgt := 2784) hx hb dL_law_845 (by decide) ?_
    refine z_widen (k := ce + 4) (n := sl + 24) (by omega) (by omega) ?_
    exact kk H0 locs ls ⟨wd, fa, od, hd', qc, qs, bc, bs', tl, rl', H', q, w, fr, tr, g, re, fi, ro, im', r, pk, cz, lh, lp, se, md, ff', now', before', chg', _, row', comes', layer', rounds', value', place, places, made, lq, left, gone, (zout Int32.toInt64 vo e), hI', hP, hD⟩ hS (lv_sub hl [2, 3, 4, 5, 6] rfl)

set_option maxHeartbeats 4000000 in
set_option maxRecDepth 100000 in
theorem zarm_addRuleAtom (K : Nat) (hK9 : 1000000 < K) {p : Program} {l : Launch} {e0 : Env} {s : State} {m : MethodId} {below : List Frame} {meth : Method} {cd : Code} {sb L : Nat} {xs : Nat → Int32} {G : va_G} {tt : Nat → ClassId} {sa : Nat → Nat} (C : zCtx p l s m meth cd sb L xs G tt sa) (a : Nat → Nat) (b : Nat → Nat → Nat) (d : Nat → Nat → Nat → Nat) (c : Nat → Nat) (ao : Nat) {i : Nat} {iI : Int32} (hi : i + 7 ≤ L) (hiI : iI = nI i) {ce sl : Nat} (hce : ce ≤ 600000) (hsl : sl ≤ 7290000) {H0 : Heap} {locs : List Loc} (hw : zWorld G tt a b d c ao (fun q : Nat => s.heap.size ≤ q) H0) (hS : va_S (fun q : Nat => s.heap.size ≤ q) s.heap H0 locs) {ls : Array Slot} (hl : lv_has ls 9 [(0, .ref sb), (1, .ref (a 0)), (2, .ref (c 0)), (3, .ref ao), (4, .int iI)])
    (kk : ∀ (H1 : Heap) (locs1 : List Loc) (ls1 : Array Slot), zWorld G tt a b d c ao (fun q : Nat => s.heap.size ≤ q) H1 → va_S (fun q : Nat => s.heap.size ≤ q) s.heap H1 locs1 → lv_has ls1 9 [(0, .ref sb), (1, .ref (a 0)), (2, .ref (c 0)), (3, .ref ao), (4, .int iI)] → W p l e0 room_1 s m #[Value.ref sb] below meth cd H1 locs1 (ce + 4) (sl + 24) (lw_Z below #[Value.ref sb] s) (F0 m 2784 ls1 [])) :
    W p l e0 room_1 s m #[Value.ref sb] below meth cd H0 locs ce sl (lw_Z below #[Value.ref sb] s) (F0 m 848 ls []) := by
  obtain ⟨wd, fa, od, hd, qc, qs, bc, bs, tl, rl, H, q, w, fr, tr, g, re, fi, ro, im, r, pk, cz, lh, lp, se, md, ff, now, before, chg, th, row, comes, layer, rounds, value, place, places, made, lq, left, gone, vo, hI, hP, hD⟩ := hw
  obtain ⟨hlt, hL, C0, hK, hN, hX, hNc⟩ := C
  obtain ⟨hx, hb, hr, hml, hown, hts0, hX9, hbl, hlocks, hgv⟩ := C0
  have hts : ∀ w ∈ wsL_law, w.before #[Value.ref sb] s = true := fun w h => hts0 w (zL_law w h)
  have hown : s.vm.findClass RL = some m.cls := hown
  have hA9 : ∀ q : Nat, s.heap.size ≤ q → (fun q : Nat => s.heap.size ≤ q) q := fun _ h => h
  have hbA : ¬ (fun q : Nat => s.heap.size ≤ q) sb := Nat.not_le.mpr hbl
  have hc0 : ce ≤ room_1.cells := by show ce ≤ 601024; omega
  have hs0 : sl ≤ room_1.slots := by show sl ≤ 7293034; omega
  have hc1 : ce + 4 ≤ room_1.cells := by show ce + 4 ≤ 601024; omega
  have hs1 : sl + 24 ≤ room_1.slots := by show sl + 24 ≤ 7293034; omega
  refine lv_aload_n hx hb dL_law_848 rfl (lv_at hl 1 rfl) ?_
  refine lv_aload_n hx hb dL_law_849 rfl (lv_at hl 0 rfl) ?_
  refine lv_iload hx hb dL_law_850 (lv_at hl 4 rfl) ?_
  refine lv_iconst (v := (1 : Int32)) hx hb dL_law_852 (by decide) ?_
  refine lv_iadd hx hb dL_law_853 ?_
  refine va_sld hx hb hX9 hbl hbA hS (zin_L hi hL hiI 1 (by decide) (1 : Int32) rfl) dL_law_854 ?_
  refine lv_topi (fun x1 ex1 => ?_)
  refine lv_aload_n hx hb dL_law_855 rfl (lv_at hl 0 rfl) ?_
  refine lv_iload hx hb dL_law_856 (lv_at hl 4 rfl) ?_
  refine lv_iconst (v := (2 : Int32)) hx hb dL_law_858 (by decide) ?_
  refine lv_iadd hx hb dL_law_859 ?_
  refine va_sld hx hb hX9 hbl hbA hS (zin_L hi hL hiI 2 (by decide) (2 : Int32) rfl) dL_law_860 ?_
  refine lv_topi (fun x2 ex2 => ?_)
  refine lv_aload_n hx hb dL_law_861 rfl (lv_at hl 0 rfl) ?_
  refine lv_iload hx hb dL_law_862 (lv_at hl 4 rfl) ?_
  refine lv_iconst (v := (3 : Int32)) hx hb dL_law_864 (by decide) ?_
  refine lv_iadd hx hb dL_law_865 ?_
  refine va_sld hx hb hX9 hbl hbA hS (zin_L hi hL hiI 3 (by decide) (3 : Int32) rfl) dL_law_866 ?_
  refine lv_topi (fun x3 ex3 => ?_)
  refine lv_aload_n hx hb dL_law_867 rfl (lv_at hl 0 rfl) ?_
  refine lv_iload hx hb dL_law_868 (lv_at hl 4 rfl) ?_
  refine lv_iconst (v := (4 : Int32)) hx hb dL_law_870 (by decide) ?_
  refine lv_iadd hx hb dL_law_871 ?_
  refine va_sld hx hb hX9 hbl hbA hS (zin_L hi hL hiI 4 (by decide) (4 : Int32) rfl) dL_law_872 ?_
  refine lv_topi (fun x4 ex4 => ?_)
  refine lv_aload_n hx hb dL_law_873 rfl (lv_at hl 0 rfl) ?_
  refine lv_iload hx hb dL_law_874 (lv_at hl 4 rfl) ?_
  refine lv_iconst (v := (5 : Int32)) hx hb dL_law_876 (by decide) ?_
  refine lv_iadd hx hb dL_law_877 ?_
  refine va_sld hx hb hX9 hbl hbA hS (zin_L hi hL hiI 5 (by decide) (5 : Int32) rfl) dL_law_878 ?_
  refine lv_topi (fun x5 ex5 => ?_)
  refine lv_aload_n hx hb dL_law_879 rfl (lv_at hl 0 rfl) ?_
  refine lv_iload hx hb dL_law_880 (lv_at hl 4 rfl) ?_
  refine lv_bipush (v := (6 : Int32)) hx hb dL_law_882 (by decide) ?_
  refine lv_iadd hx hb dL_law_884 ?_
  refine va_sld hx hb hX9 hbl hbA hS (zin_L hi hL hiI 6 (by decide) (6 : Int32) rfl) dL_law_885 ?_
  refine lv_topi (fun x6 ex6 => ?_)
  by_cases h6 : x6 = 0
  · refine lv_if_eq (tgt := 893) hx hb dL_law_886 (by decide) (fun _ => ?_) (fun h9 => absurd h6 h9)
    refine lv_iconst (v := (0 : Int32)) hx hb dL_law_893 (by decide) ?_
    refine lv_aload_n hx hb dL_law_894 rfl (lv_at hl 3 rfl) ?_
    obtain ⟨e, bb, bc', bs', H', tried', im', ff', now', before', chg', row', comes', layer', rounds', value', e1, e2, hA, hI'⟩ := zI_addRuleAtom K hK9 hI comes tr x1 x2 x3 x4 x5 (0 : Int32) th
    unfold zaph at e1
    refine z_callW (wc := (ao, zoc tt vo) :: wL tt a b d wd fa od hd qc qs bc bs tl rl H q w fr tr g re fi ro im r pk cz lh lp se md ff) (wr := wM tt c now before chg th row comes layer rounds value place places made lq left gone) (As := [.ref (a 0), .int x1, .int x2, .int x3, .int x4, .int x5, .int (0 : Int32), .ref ao]) (rest := []) ⟨hx, hb, hml, hown, hts⟩ hK hN hX hNc hP hD hS hA9 (mL_addRuleAtom l G tt sa hlt H0.size K a b d wd fa od hd qc qs bc bs tl rl H q w fr tr g re fi ro im r pk cz lh lp se md ff x1 x2 x3 x4 x5 (0 : Int32) ao vo _ e1 bb hA) (vx_cwSW 8 hts gL_law_L_addRuleAtom rfl rfl rfl (by decide +kernel) ⟨Nat.le_of_ble_eq_true rfl, Nat.le_of_ble_eq_true rfl⟩) rfl hl.1 rfl (Nat.le_of_ble_eq_true rfl) dL_law_895 ⟨hc1, hs1⟩ (fun rr u H0 locs hw hP hD hS => ?_)
    obtain ⟨hw1, hw2⟩ := hw
    replace hw1 := hw1.symm; subst hw1
    replace hw2 := hw2.symm; subst hw2
    have hP : va_P G vwCl (wM tt c now before chg th row comes layer rounds value place places made lq left gone ++ ((ao, zoc tt (zout Int32.toInt64 vo e)) :: wL tt a b d wd fa od hd qc qs bc' bs' tl rl H' q w fr tried' g re fi ro im' r pk cz lh lp se md ff')) H0 := hP
    have hD : va_D (fun q : Nat => s.heap.size ≤ q) (wM tt c now before chg th row comes layer rounds value place places made lq left gone ++ ((ao, zoc tt (zout Int32.toInt64 vo e)) :: wL tt a b d wd fa od hd qc qs bc' bs' tl rl H' q w fr tried' g re fi ro im' r pk cz lh lp se md ff')) := hD
    refine lv_istore (lv' := [(5, .int bb.2), (0, .ref sb), (1, .ref (a 0)), (2, .ref (c 0)), (3, .ref ao), (4, .int iI)]) hx hb dL_law_898 hl (by decide) rfl (fun ls hl => ?_)
    refine lv_aload_n hx hb dL_law_900 rfl (lv_at hl 3 rfl) ?_
    refine lv_aload_n hx hb dL_law_901 rfl (lv_at hl 1 rfl) ?_
    refine lv_iload hx hb dL_law_902 (lv_at hl 5 rfl) ?_
    refine lv_iconst (v := (1 : Int32)) hx hb dL_law_904 (by decide) ?_
    refine lv_iadd hx hb dL_law_905 ?_
    refine va_sld hx hb hX9 hbl hbA hS (zin_L hi hL hiI 1 (by decide) (1 : Int32) rfl) dL_law_906 ?_
    refine lv_topi (fun x7 ex7 => ?_)
    obtain rfl : x7 = x1 := ex7.trans ex1.symm
    refine lv_aload_n hx hb dL_law_907 rfl (lv_at hl 1 rfl) ?_
    refine lv_iload hx hb dL_law_908 (lv_at hl 5 rfl) ?_
    refine lv_iconst (v := (2 : Int32)) hx hb dL_law_910 (by decide) ?_
    refine lv_iadd hx hb dL_law_911 ?_
    refine va_sld hx hb hX9 hbl hbA hS (zin_L hi hL hiI 2 (by decide) (2 : Int32) rfl) dL_law_912 ?_
    refine lv_topi (fun x8 ex8 => ?_)
    obtain rfl : x8 = x2 := ex8.trans ex2.symm
    refine lv_aload_n hx hb dL_law_913 rfl (lv_at hl 1 rfl) ?_
    refine lv_iload hx hb dL_law_914 (lv_at hl 5 rfl) ?_
    refine lv_iconst (v := (3 : Int32)) hx hb dL_law_916 (by decide) ?_
    refine lv_iadd hx hb dL_law_917 ?_
    refine va_sld hx hb hX9 hbl hbA hS (zin_L hi hL hiI 3 (by decide) (3 : Int32) rfl) dL_law_918 ?_
    refine lv_topi (fun x9 ex9 => ?_)
    obtain rfl : x9 = x3 := ex9.trans ex3.symm
    refine lv_aload_n hx hb dL_law_919 rfl (lv_at hl 1 rfl) ?_
    refine lv_iload hx hb dL_law_920 (lv_at hl 5 rfl) ?_
    refine lv_iconst (v := (4 : Int32)) hx hb dL_law_922 (by decide) ?_
    refine lv_iadd hx hb dL_law_923 ?_
    refine va_sld hx hb hX9 hbl hbA hS (zin_L hi hL hiI 4 (by decide) (4 : Int32) rfl) dL_law_924 ?_
    refine lv_topi (fun x10 ex10 => ?_)
    obtain rfl : x10 = x4 := ex10.trans ex4.symm
    refine lv_aload_n hx hb dL_law_925 rfl (lv_at hl 1 rfl) ?_
    refine lv_iload hx hb dL_law_926 (lv_at hl 5 rfl) ?_
    refine lv_iconst (v := (5 : Int32)) hx hb dL_law_928 (by decide) ?_
    refine lv_iadd hx hb dL_law_929 ?_
    refine va_sld hx hb hX9 hbl hbA hS (zin_L hi hL hiI 5 (by decide) (5 : Int32) rfl) dL_law_930 ?_
    refine lv_topi (fun x11 ex11 => ?_)
    obtain rfl : x11 = x5 := ex11.trans ex5.symm
    refine lv_aload_n hx hb dL_law_931 rfl (lv_at hl 1 rfl) ?_
    refine lv_iload hx hb dL_law_932 (lv_at hl 5 rfl) ?_
    refine lv_bipush (v := (6 : Int32)) hx hb dL_law_934 (by decide) ?_
    refine lv_iadd hx hb dL_law_936 ?_
    refine va_sld hx hb hX9 hbl hbA hS (zin_L hi hL hiI 6 (by decide) (6 : Int32) rfl) dL_law_937 ?_
    refine lv_topi (fun x12 ex12 => ?_)
    obtain rfl : x12 = x6 := ex12.trans ex6.symm
    refine lv_if_eq (tgt := 945) hx hb dL_law_938 (by decide) (fun _ => ?_) (fun h9 => absurd h6 h9)
    refine lv_iconst (v := (0 : Int32)) hx hb dL_law_945 (by decide) ?_
    refine z_callVi (wc := wM tt c now before chg th row comes layer rounds value place places made lq left gone) (wr := (ao, zoc tt (zout Int32.toInt64 vo e)) :: wL tt a b d wd fa od hd qc qs bc' bs' tl rl H' q w fr tried' g re fi ro im' r pk cz lh lp se md ff') (As := [.int x7, .int x8, .int x9, .int x10, .int x11, .int (0 : Int32)]) (rest := []) (ci := 11) ⟨hx, hb, hml, hown, hts⟩ hK hN hP hD hS hA9 (nX12_addRuleAtom l G tt H0.size K c now before chg th row comes layer rounds value place places made lq left gone x7 x8 x9 x10 x11 (0 : Int32) _ e2) (cwV 6 hts gL_law_X12_addRuleAtom rfl rfl rfl (by decide +kernel) ⟨Nat.le_of_ble_eq_true rfl, Nat.le_of_ble_eq_true rfl⟩) rfl rfl rfl hl.1 rfl (Nat.le_of_ble_eq_true rfl) dL_law_946 ⟨hc1, hs1⟩ (fun rr u H0 locs hw hP hD hS => ?_)
    obtain ⟨hw1, hw2⟩ := hw
    replace hw1 := hw1.symm; subst hw1
    replace hw2 := hw2.symm; subst hw2
    have hP : va_P G vwCl (((ao, zoc tt (zout Int32.toInt64 vo e)) :: wL tt a b d wd fa od hd qc qs bc' bs' tl rl H' q w fr tried' g re fi ro im' r pk cz lh lp se md ff') ++ wM tt c now' before' chg' bb.2 row' comes' layer' rounds' value' place places made lq left gone) H0 := hP
    have hD : va_D (fun q : Nat => s.heap.size ≤ q) (((ao, zoc tt (zout Int32.toInt64 vo e)) :: wL tt a b d wd fa od hd qc qs bc' bs' tl rl H' q w fr tried' g re fi ro im' r pk cz lh lp se md ff') ++ wM tt c now' before' chg' bb.2 row' comes' layer' rounds' value' place places made lq left gone) := hD
    refine lv_istore (lv' := [(6, .int bb.1), (5, .int bb.2), (0, .ref sb), (1, .ref (a 0)), (2, .ref (c 0)), (3, .ref ao), (4, .int iI)]) hx hb dL_law_949 hl (by decide) rfl (fun ls hl => ?_)
    refine lv_aload_n hx hb dL_law_951 rfl (lv_at hl 4 rfl) ?_
    have hP := zP_perm (List.perm_append_comm (l₁ := (ao, zoc tt (zout Int32.toInt64 vo e)) :: wL tt a b d wd fa od hd qc qs bc' bs' tl rl H' q w fr tried' g re fi ro im' r pk cz lh lp se md ff') (l₂ := wM tt c now' before' chg' bb.2 row' comes' layer' rounds' value' place places made lq left gone)) hP
    have hD := zD_perm (List.perm_append_comm (l₁ := (ao, zoc tt (zout Int32.toInt64 vo e)) :: wL tt a b d wd fa od hd qc qs bc' bs' tl rl H' q w fr tried' g re fi ro im' r pk cz lh lp se md ff') (l₂ := wM tt c now' before' chg' bb.2 row' comes' layer' rounds' value' place places made lq left gone)) hD
    refine z_callVi (wc := wM tt c now' before' chg' bb.2 row' comes' layer' rounds' value' place places made lq left gone) (wr := (ao, zoc tt (zout Int32.toInt64 vo e)) :: wL tt a b d wd fa od hd qc qs bc' bs' tl rl H' q w fr tried' g re fi ro im' r pk cz lh lp se md ff') (As := []) (rest := []) (ci := 11) ⟨hx, hb, hml, hown, hts⟩ hK hN hP hD hS hA9 (nX12_thrown l G tt H0.size c now' before' chg' bb.2 row' comes' layer' rounds' value' place places made lq left gone bb.2 rfl) (cwV 0 hts gL_law_X12_thrown rfl rfl rfl (by decide +kernel) ⟨Nat.le_of_ble_eq_true rfl, Nat.le_of_ble_eq_true rfl⟩) rfl rfl rfl hl.1 rfl (Nat.le_of_ble_eq_true rfl) dL_law_952 ⟨hc1, hs1⟩ (fun rr u H0 locs hw hP hD hS => ?_)
    replace hw := hw.symm; subst hw
    have hP : va_P G vwCl (((ao, zoc tt (zout Int32.toInt64 vo e)) :: wL tt a b d wd fa od hd qc qs bc' bs' tl rl H' q w fr tried' g re fi ro im' r pk cz lh lp se md ff') ++ wM tt c now' before' chg' bb.2 row' comes' layer' rounds' value' place places made lq left gone) H0 := hP
    have hD : va_D (fun q : Nat => s.heap.size ≤ q) (((ao, zoc tt (zout Int32.toInt64 vo e)) :: wL tt a b d wd fa od hd qc qs bc' bs' tl rl H' q w fr tried' g re fi ro im' r pk cz lh lp se md ff') ++ wM tt c now' before' chg' bb.2 row' comes' layer' rounds' value' place places made lq left gone) := hD
    refine lv_iload hx hb dL_law_955 (lv_at hl 1 rfl) ?_
    refine lv_icmp_eq (tgt := 962) hx hb dL_law_957 (by decide) (fun _ => ?_) (fun h9 => absurd rfl h9)
    refine lv_iload hx hb dL_law_962 (lv_at hl 1 rfl) ?_
    rcases hA with ⟨k9, hk9, ek, rfl⟩ | ⟨v9, ev, rfl⟩
    · refine lv_if_ne (tgt := 979) hx hb dL_law_964 (by decide) (fun _ => ?_) (fun h9 => absurd h9 (fun h => zcd_ne k9 h))
      refine lv_goto (tgt := 2784) hx hb dL_law_979 (by decide) ?_
      refine z_widen (k := ce + 4) (n := sl + 24) (by omega) (by omega) ?_
      exact kk H0 locs ls ⟨wd, fa, od, hd, qc, qs, bc', bs', tl, rl, H', q, w, fr, tried', g, re, fi, ro, im', r, pk, cz, lh, lp, se, md, ff', now', before', chg', _, row', comes', layer', rounds', value', place, places, made, lq, left, gone, (zout Int32.toInt64 vo e), hI', hP, hD⟩ hS (lv_sub hl [2, 3, 4, 5, 6] rfl)
    · refine lv_if_ne (tgt := 979) hx hb dL_law_964 (by decide) (fun h9 => absurd rfl h9) (fun _ => ?_)
      refine lv_aload_n hx hb dL_law_967 rfl (lv_at hl 5 rfl) ?_
      refine lv_iconst (v := (0 : Int32)) hx hb dL_law_968 (by decide) ?_
      refine va_lald hx hb hK hP 0 1 rfl rfl (inB_vp (by decide)) dL_law_969 ?_
      refine lv_iload hx hb dL_law_970 (lv_at hl 0 rfl) ?_
      refine lv_i2l hx hb dL_law_972 rfl ?_
      refine W.lcmp hx hb dL_law_973 ?_
      refine lv_if_eq (tgt := 979) hx hb dL_law_974 (by decide) (fun _ => ?_) (fun h9 => absurd ((lg_cmp_eq _ _).mpr (by subst ev; exact (zout_at Int32.toInt64 vo v9))) h9)
      refine lv_goto (tgt := 2784) hx hb dL_law_979 (by decide) ?_
      refine z_widen (k := ce + 4) (n := sl + 24) (by omega) (by omega) ?_
      exact kk H0 locs ls ⟨wd, fa, od, hd, qc, qs, bc', bs', tl, rl, H', q, w, fr, tried', g, re, fi, ro, im', r, pk, cz, lh, lp, se, md, ff', now', before', chg', _, row', comes', layer', rounds', value', place, places, made, lq, left, gone, (zout Int32.toInt64 vo e), hI', hP, hD⟩ hS (lv_sub hl [2, 3, 4, 5, 6] rfl)
  · refine lv_if_eq (tgt := 893) hx hb dL_law_886 (by decide) (fun h9 => absurd h9 h6) (fun _ => ?_)
    refine lv_iconst (v := (1 : Int32)) hx hb dL_law_889 (by decide) ?_
    refine lv_goto (tgt := 894) hx hb dL_law_890 (by decide) ?_
    refine lv_aload_n hx hb dL_law_894 rfl (lv_at hl 3 rfl) ?_
    obtain ⟨e, bb, bc', bs', H', tried', im', ff', now', before', chg', row', comes', layer', rounds', value', e1, e2, hA, hI'⟩ := zI_addRuleAtom K hK9 hI comes tr x1 x2 x3 x4 x5 (1 : Int32) th
    unfold zaph at e1
    refine z_callW (wc := (ao, zoc tt vo) :: wL tt a b d wd fa od hd qc qs bc bs tl rl H q w fr tr g re fi ro im r pk cz lh lp se md ff) (wr := wM tt c now before chg th row comes layer rounds value place places made lq left gone) (As := [.ref (a 0), .int x1, .int x2, .int x3, .int x4, .int x5, .int (1 : Int32), .ref ao]) (rest := []) ⟨hx, hb, hml, hown, hts⟩ hK hN hX hNc hP hD hS hA9 (mL_addRuleAtom l G tt sa hlt H0.size K a b d wd fa od hd qc qs bc bs tl rl H q w fr tr g re fi ro im r pk cz lh lp se md ff x1 x2 x3 x4 x5 (1 : Int32) ao vo _ e1 bb hA) (vx_cwSW 8 hts gL_law_L_addRuleAtom rfl rfl rfl (by decide +kernel) ⟨Nat.le_of_ble_eq_true rfl, Nat.le_of_ble_eq_true rfl⟩) rfl hl.1 rfl (Nat.le_of_ble_eq_true rfl) dL_law_895 ⟨hc1, hs1⟩ (fun rr u H0 locs hw hP hD hS => ?_)
    obtain ⟨hw1, hw2⟩ := hw
    replace hw1 := hw1.symm; subst hw1
    replace hw2 := hw2.symm; subst hw2
    have hP : va_P G vwCl (wM tt c now before chg th row comes layer rounds value place places made lq left gone ++ ((ao, zoc tt (zout Int32.toInt64 vo e)) :: wL tt a b d wd fa od hd qc qs bc' bs' tl rl H' q w fr tried' g re fi ro im' r pk cz lh lp se md ff')) H0 := hP
    have hD : va_D (fun q : Nat => s.heap.size ≤ q) (wM tt c now before chg th row comes layer rounds value place places made lq left gone ++ ((ao, zoc tt (zout Int32.toInt64 vo e)) :: wL tt a b d wd fa od hd qc qs bc' bs' tl rl H' q w fr tried' g re fi ro im' r pk cz lh lp se md ff')) := hD
    refine lv_istore (lv' := [(5, .int bb.2), (0, .ref sb), (1, .ref (a 0)), (2, .ref (c 0)), (3, .ref ao), (4, .int iI)]) hx hb dL_law_898 hl (by decide) rfl (fun ls hl => ?_)
    refine lv_aload_n hx hb dL_law_900 rfl (lv_at hl 3 rfl) ?_
    refine lv_aload_n hx hb dL_law_901 rfl (lv_at hl 1 rfl) ?_
    refine lv_iload hx hb dL_law_902 (lv_at hl 5 rfl) ?_
    refine lv_iconst (v := (1 : Int32)) hx hb dL_law_904 (by decide) ?_
    refine lv_iadd hx hb dL_law_905 ?_
    refine va_sld hx hb hX9 hbl hbA hS (zin_L hi hL hiI 1 (by decide) (1 : Int32) rfl) dL_law_906 ?_
    refine lv_topi (fun x7 ex7 => ?_)
    obtain rfl : x7 = x1 := ex7.trans ex1.symm
    refine lv_aload_n hx hb dL_law_907 rfl (lv_at hl 1 rfl) ?_
    refine lv_iload hx hb dL_law_908 (lv_at hl 5 rfl) ?_
    refine lv_iconst (v := (2 : Int32)) hx hb dL_law_910 (by decide) ?_
    refine lv_iadd hx hb dL_law_911 ?_
    refine va_sld hx hb hX9 hbl hbA hS (zin_L hi hL hiI 2 (by decide) (2 : Int32) rfl) dL_law_912 ?_
    refine lv_topi (fun x8 ex8 => ?_)
    obtain rfl : x8 = x2 := ex8.trans ex2.symm
    refine lv_aload_n hx hb dL_law_913 rfl (lv_at hl 1 rfl) ?_
    refine lv_iload hx hb dL_law_914 (lv_at hl 5 rfl) ?_
    refine lv_iconst (v := (3 : Int32)) hx hb dL_law_916 (by decide) ?_
    refine lv_iadd hx hb dL_law_917 ?_
    refine va_sld hx hb hX9 hbl hbA hS (zin_L hi hL hiI 3 (by decide) (3 : Int32) rfl) dL_law_918 ?_
    refine lv_topi (fun x9 ex9 => ?_)
    obtain rfl : x9 = x3 := ex9.trans ex3.symm
    refine lv_aload_n hx hb dL_law_919 rfl (lv_at hl 1 rfl) ?_
    refine lv_iload hx hb dL_law_920 (lv_at hl 5 rfl) ?_
    refine lv_iconst (v := (4 : Int32)) hx hb dL_law_922 (by decide) ?_
    refine lv_iadd hx hb dL_law_923 ?_
    refine va_sld hx hb hX9 hbl hbA hS (zin_L hi hL hiI 4 (by decide) (4 : Int32) rfl) dL_law_924 ?_
    refine lv_topi (fun x10 ex10 => ?_)
    obtain rfl : x10 = x4 := ex10.trans ex4.symm
    refine lv_aload_n hx hb dL_law_925 rfl (lv_at hl 1 rfl) ?_
    refine lv_iload hx hb dL_law_926 (lv_at hl 5 rfl) ?_
    refine lv_iconst (v := (5 : Int32)) hx hb dL_law_928 (by decide) ?_
    refine lv_iadd hx hb dL_law_929 ?_
    refine va_sld hx hb hX9 hbl hbA hS (zin_L hi hL hiI 5 (by decide) (5 : Int32) rfl) dL_law_930 ?_
    refine lv_topi (fun x11 ex11 => ?_)
    obtain rfl : x11 = x5 := ex11.trans ex5.symm
    refine lv_aload_n hx hb dL_law_931 rfl (lv_at hl 1 rfl) ?_
    refine lv_iload hx hb dL_law_932 (lv_at hl 5 rfl) ?_
    refine lv_bipush (v := (6 : Int32)) hx hb dL_law_934 (by decide) ?_
    refine lv_iadd hx hb dL_law_936 ?_
    refine va_sld hx hb hX9 hbl hbA hS (zin_L hi hL hiI 6 (by decide) (6 : Int32) rfl) dL_law_937 ?_
    refine lv_topi (fun x12 ex12 => ?_)
    obtain rfl : x12 = x6 := ex12.trans ex6.symm
    refine lv_if_eq (tgt := 945) hx hb dL_law_938 (by decide) (fun h9 => absurd h9 h6) (fun _ => ?_)
    refine lv_iconst (v := (1 : Int32)) hx hb dL_law_941 (by decide) ?_
    refine lv_goto (tgt := 946) hx hb dL_law_942 (by decide) ?_
    refine z_callVi (wc := wM tt c now before chg th row comes layer rounds value place places made lq left gone) (wr := (ao, zoc tt (zout Int32.toInt64 vo e)) :: wL tt a b d wd fa od hd qc qs bc' bs' tl rl H' q w fr tried' g re fi ro im' r pk cz lh lp se md ff') (As := [.int x7, .int x8, .int x9, .int x10, .int x11, .int (1 : Int32)]) (rest := []) (ci := 11) ⟨hx, hb, hml, hown, hts⟩ hK hN hP hD hS hA9 (nX12_addRuleAtom l G tt H0.size K c now before chg th row comes layer rounds value place places made lq left gone x7 x8 x9 x10 x11 (1 : Int32) _ e2) (cwV 6 hts gL_law_X12_addRuleAtom rfl rfl rfl (by decide +kernel) ⟨Nat.le_of_ble_eq_true rfl, Nat.le_of_ble_eq_true rfl⟩) rfl rfl rfl hl.1 rfl (Nat.le_of_ble_eq_true rfl) dL_law_946 ⟨hc1, hs1⟩ (fun rr u H0 locs hw hP hD hS => ?_)
    obtain ⟨hw1, hw2⟩ := hw
    replace hw1 := hw1.symm; subst hw1
    replace hw2 := hw2.symm; subst hw2
    have hP : va_P G vwCl (((ao, zoc tt (zout Int32.toInt64 vo e)) :: wL tt a b d wd fa od hd qc qs bc' bs' tl rl H' q w fr tried' g re fi ro im' r pk cz lh lp se md ff') ++ wM tt c now' before' chg' bb.2 row' comes' layer' rounds' value' place places made lq left gone) H0 := hP
    have hD : va_D (fun q : Nat => s.heap.size ≤ q) (((ao, zoc tt (zout Int32.toInt64 vo e)) :: wL tt a b d wd fa od hd qc qs bc' bs' tl rl H' q w fr tried' g re fi ro im' r pk cz lh lp se md ff') ++ wM tt c now' before' chg' bb.2 row' comes' layer' rounds' value' place places made lq left gone) := hD
    refine lv_istore (lv' := [(6, .int bb.1), (5, .int bb.2), (0, .ref sb), (1, .ref (a 0)), (2, .ref (c 0)), (3, .ref ao), (4, .int iI)]) hx hb dL_law_949 hl (by decide) rfl (fun ls hl => ?_)
    refine lv_aload_n hx hb dL_law_951 rfl (lv_at hl 4 rfl) ?_
    have hP := zP_perm (List.perm_append_comm (l₁ := (ao, zoc tt (zout Int32.toInt64 vo e)) :: wL tt a b d wd fa od hd qc qs bc' bs' tl rl H' q w fr tried' g re fi ro im' r pk cz lh lp se md ff') (l₂ := wM tt c now' before' chg' bb.2 row' comes' layer' rounds' value' place places made lq left gone)) hP
    have hD := zD_perm (List.perm_append_comm (l₁ := (ao, zoc tt (zout Int32.toInt64 vo e)) :: wL tt a b d wd fa od hd qc qs bc' bs' tl rl H' q w fr tried' g re fi ro im' r pk cz lh lp se md ff') (l₂ := wM tt c now' before' chg' bb.2 row' comes' layer' rounds' value' place places made lq left gone)) hD
    refine z_callVi (wc := wM tt c now' before' chg' bb.2 row' comes' layer' rounds' value' place places made lq left gone) (wr := (ao, zoc tt (zout Int32.toInt64 vo e)) :: wL tt a b d wd fa od hd qc qs bc' bs' tl rl H' q w fr tried' g re fi ro im' r pk cz lh lp se md ff') (As := []) (rest := []) (ci := 11) ⟨hx, hb, hml, hown, hts⟩ hK hN hP hD hS hA9 (nX12_thrown l G tt H0.size c now' before' chg' bb.2 row' comes' layer' rounds' value' place places made lq left gone bb.2 rfl) (cwV 0 hts gL_law_X12_thrown rfl rfl rfl (by decide +kernel) ⟨Nat.le_of_ble_eq_true rfl, Nat.le_of_ble_eq_true rfl⟩) rfl rfl rfl hl.1 rfl (Nat.le_of_ble_eq_true rfl) dL_law_952 ⟨hc1, hs1⟩ (fun rr u H0 locs hw hP hD hS => ?_)
    replace hw := hw.symm; subst hw
    have hP : va_P G vwCl (((ao, zoc tt (zout Int32.toInt64 vo e)) :: wL tt a b d wd fa od hd qc qs bc' bs' tl rl H' q w fr tried' g re fi ro im' r pk cz lh lp se md ff') ++ wM tt c now' before' chg' bb.2 row' comes' layer' rounds' value' place places made lq left gone) H0 := hP
    have hD : va_D (fun q : Nat => s.heap.size ≤ q) (((ao, zoc tt (zout Int32.toInt64 vo e)) :: wL tt a b d wd fa od hd qc qs bc' bs' tl rl H' q w fr tried' g re fi ro im' r pk cz lh lp se md ff') ++ wM tt c now' before' chg' bb.2 row' comes' layer' rounds' value' place places made lq left gone) := hD
    refine lv_iload hx hb dL_law_955 (lv_at hl 1 rfl) ?_
    refine lv_icmp_eq (tgt := 962) hx hb dL_law_957 (by decide) (fun _ => ?_) (fun h9 => absurd rfl h9)
    refine lv_iload hx hb dL_law_962 (lv_at hl 1 rfl) ?_
    rcases hA with ⟨k9, hk9, ek, rfl⟩ | ⟨v9, ev, rfl⟩
    · refine lv_if_ne (tgt := 979) hx hb dL_law_964 (by decide) (fun _ => ?_) (fun h9 => absurd h9 (fun h => zcd_ne k9 h))
      refine lv_goto (tgt := 2784) hx hb dL_law_979 (by decide) ?_
      refine z_widen (k := ce + 4) (n := sl + 24) (by omega) (by omega) ?_
      exact kk H0 locs ls ⟨wd, fa, od, hd, qc, qs, bc', bs', tl, rl, H', q, w, fr, tried', g, re, fi, ro, im', r, pk, cz, lh, lp, se, md, ff', now', before', chg', _, row', comes', layer', rounds', value', place, places, made, lq, left, gone, (zout Int32.toInt64 vo e), hI', hP, hD⟩ hS (lv_sub hl [2, 3, 4, 5, 6] rfl)
    · refine lv_if_ne (tgt := 979) hx hb dL_law_964 (by decide) (fun h9 => absurd rfl h9) (fun _ => ?_)
      refine lv_aload_n hx hb dL_law_967 rfl (lv_at hl 5 rfl) ?_
      refine lv_iconst (v := (0 : Int32)) hx hb dL_law_968 (by decide) ?_
      refine va_lald hx hb hK hP 0 1 rfl rfl (inB_vp (by decide)) dL_law_969 ?_
      refine lv_iload hx hb dL_law_970 (lv_at hl 0 rfl) ?_
      refine lv_i2l hx hb dL_law_972 rfl ?_
      refine W.lcmp hx hb dL_law_973 ?_
      refine lv_if_eq (tgt := 979) hx hb dL_law_974 (by decide) (fun _ => ?_) (fun h9 => absurd ((lg_cmp_eq _ _).mpr (by subst ev; exact (zout_at Int32.toInt64 vo v9))) h9)
      refine lv_goto (tgt := 2784) hx hb dL_law_979 (by decide) ?_
      refine z_widen (k := ce + 4) (n := sl + 24) (by omega) (by omega) ?_
      exact kk H0 locs ls ⟨wd, fa, od, hd, qc, qs, bc', bs', tl, rl, H', q, w, fr, tried', g, re, fi, ro, im', r, pk, cz, lh, lp, se, md, ff', now', before', chg', _, row', comes', layer', rounds', value', place, places, made, lq, left, gone, (zout Int32.toInt64 vo e), hI', hP, hD⟩ hS (lv_sub hl [2, 3, 4, 5, 6] rfl)
