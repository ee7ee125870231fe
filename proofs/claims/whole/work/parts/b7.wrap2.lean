/-! the law's own methods -/
set_option maxHeartbeats 4000000 in
set_option maxRecDepth 100000 in
theorem mL_dropRule (l : Launch) (G : va_G) (tt : Nat → ClassId) (sa : Nat → Nat) (hlt : l.stackTraces = false) (sz : Nat) (K : Nat) (a : Nat → Nat) (b : Nat → Nat → Nat) (d : Nat → Nat → Nat → Nat) (wd : Nat → Int32) (fa : Nat → Int64) (od hd : Nat → Int32) (qc : Nat → Nat → Int32) (qs : Nat → Int32) (bc : Nat → Nat → Int32) (bs : Nat → Int32) (tl rl : Int32) (H : zH12) (q : zR13) (w fr : Nat → Int64) (tr g re fi : Nat → Int32) (ro im : Int32) (r : zR15) (pk : Int32) (cz : Nat → Int32) (lh : Int32) (lp : Int64) (se : Nat → Int32) (md : Nat → Int64) (ff : Int32) (p1 : Int32) (ao : Nat) (vo : Nat → Int64) (RR : (Nat ⊕ Int32) × (Nat → Int32) × (Nat → Nat → Int32) × (Nat → Int32) × Int32 × (Nat → Nat → Int32) × (Nat → Nat → Int64) × (Nat → Nat → Int32) × (Nat → Nat → Int32) × (Nat → Nat → Nat → Int32) × (Nat → Nat → Int32) × (Nat → Nat → Nat → Int32) × (Nat → Nat → Int32) × (Nat → Int32) × (Nat → Int32) × Int32 × Int32 × Int32 × Int32) (hF : fX11_dropRule K wd fa od qc qs tl p1 hd bc bs rl H.1 H.2.1 H.2.2.1 H.2.2.2.1 H.2.2.2.2.1 H.2.2.2.2.2.1 H.2.2.2.2.2.2.1 H.2.2.2.2.2.2.2.1 H.2.2.2.2.2.2.2.2.1 H.2.2.2.2.2.2.2.2.2.1 H.2.2.2.2.2.2.2.2.2.2.1 H.2.2.2.2.2.2.2.2.2.2.2 im ff = some RR) (bb : Int32 × Int32) (hA : zAg [0] 0 RR.1 bb) : Met l yL_dropRule wsL_dropRule ({ frames := 8, cells := 1, slots := 6, locals := 132 } : Room) (zPreL G (zTy tt) sa [.ref (a 0), .int p1, .ref ao] sz ((ao, zoc tt vo) :: wL tt a b d wd fa od hd qc qs bc bs tl rl H q w fr tr g re fi ro im r pk cz lh lp se md ff)) (va_Qi (fun (r : Int32) (u : (Nat → Int32) × (Nat → Nat → Int32) × (Nat → Int32) × Int32 × (Nat → Nat → Int32) × (Nat → Nat → Int64) × (Nat → Nat → Int32) × (Nat → Nat → Int32) × (Nat → Nat → Nat → Int32) × (Nat → Nat → Int32) × (Nat → Nat → Nat → Int32) × (Nat → Nat → Int32) × (Nat → Int32) × (Nat → Int32) × Int32 × Int32 × Int32 × Int32) => r = bb.2 ∧ u = RR.2) (zAt G (zTy tt) (va_A ((ao, zoc tt vo) :: wL tt a b d wd fa od hd qc qs bc bs tl rl H q w fr tr g re fi ro im r pk cz lh lp se md ff) sz) (fun u : (Nat → Int32) × (Nat → Nat → Int32) × (Nat → Int32) × Int32 × (Nat → Nat → Int32) × (Nat → Nat → Int64) × (Nat → Nat → Int32) × (Nat → Nat → Int32) × (Nat → Nat → Nat → Int32) × (Nat → Nat → Int32) × (Nat → Nat → Nat → Int32) × (Nat → Nat → Int32) × (Nat → Int32) × (Nat → Int32) × Int32 × Int32 × Int32 × Int32 => (ao, zoc tt (zout Int32.toInt64 vo RR.1)) :: wL tt a b d wd fa od u.1 qc qs u.2.1 u.2.2.1 tl u.2.2.2.1 (u.2.2.2.2.1, u.2.2.2.2.2.1, u.2.2.2.2.2.2.1, u.2.2.2.2.2.2.2.1, u.2.2.2.2.2.2.2.2.1, u.2.2.2.2.2.2.2.2.2.1, u.2.2.2.2.2.2.2.2.2.2.1, u.2.2.2.2.2.2.2.2.2.2.2.1, u.2.2.2.2.2.2.2.2.2.2.2.2.1, u.2.2.2.2.2.2.2.2.2.2.2.2.2.1, u.2.2.2.2.2.2.2.2.2.2.2.2.2.2.1, u.2.2.2.2.2.2.2.2.2.2.2.2.2.2.2.1) q w fr tr g re fi ro u.2.2.2.2.2.2.2.2.2.2.2.2.2.2.2.2.1 r pk cz lh lp se md u.2.2.2.2.2.2.2.2.2.2.2.2.2.2.2.2.2)) (va_A ((ao, zoc tt vo) :: wL tt a b d wd fa od hd qc qs bc bs tl rl H q w fr tr g re fi ro im r pk cz lh lp se md ff) sz)) 1 6 (va_A ((ao, zoc tt vo) :: wL tt a b d wd fa od hd qc qs bc bs tl rl H q w fr tr g re fi ro im r pk cz lh lp se md ff) sz) := by
  refine va_MetW (cc := cL_dropRule) (maxL := 4) (ret := (some .int)) (hh := [(0, 9, 12, 21)]) (by decide +kernel) rfl ?_
  intro p e s m args below meth c s₁ B hml hv
  obtain ⟨⟨rfl, hsz, hP, hK, hD0, hN, hX⟩, hL⟩ := hv
  have hx := B.exec
  have hb := B.bytes
  have hr := B.returns
  have hts := atoms_spec (ws := wsL_dropRule) B.pre
  have hown : s.vm.findClass RL = some m.cls := findClass_of_methodNamed B.named
  have hlocks := B.notSynchronized
  have htab : c.exceptionTable.toList = tableOf [(0, 9, 12, 21)] := vx_table (x := yL_dropRule) B (hts _ List.mem_cons_self)
  subst hsz
  have hD := hD0.self (sz := s.heap.size)
  generalize hAe : va_A ((ao, zoc tt vo) :: wL tt a b d wd fa od hd qc qs bc bs tl rl H q w fr tr g re fi ro im r pk cz lh lp se md ff) s.heap.size = A at hD hX ⊢
  have hA9 : ∀ q : Nat, s.heap.size ≤ q → A q := fun q h => by rw [← hAe]; exact Or.inr h
  have hl := lv_entry ([.ref (a 0), .int p1, .ref ao]) (n := 4) (Nat.le_of_ble_eq_true rfl)
  rw [lg_entry_eq]
  generalize (lg_sl ([.ref (a 0), .int p1, .ref ao]) ++ List.replicate (4 - (lg_sl ([.ref (a 0), .int p1, .ref ao])).length) Slot.unset).toArray = ls at hl ⊢
  have hl : lv_has ls 4 [(0, .ref (a 0)), (1, .int p1), (2, .ref ao)] := hl
  obtain ⟨H0, hHe⟩ : ∃ H : Heap, s.heap = H := ⟨_, rfl⟩
  have hS : va_S A s.heap H0 [] := by rw [← hHe]; exact va_S.rf
  rw [hHe] at hP ⊢
  have hP := zP_perm (List.perm_append_comm (l₁ := [(ao, zoc tt vo)]) (l₂ := wL tt a b d wd fa od hd qc qs bc bs tl rl H q w fr tr g re fi ro im r pk cz lh lp se md ff)) hP
  have hD := zD_perm (List.perm_append_comm (l₁ := [(ao, zoc tt vo)]) (l₂ := wL tt a b d wd fa od hd qc qs bc bs tl rl H q w fr tr g re fi ro im r pk cz lh lp se md ff)) hD
  refine lv_aload_n hx hb dL_dropRule_0 rfl (lv_at hl 2 rfl) ?_
  refine lv_iconst (v := (0 : Int32)) hx hb dL_dropRule_1 (by decide) ?_
  refine lv_aload_n hx hb dL_dropRule_2 rfl (lv_at hl 0 rfl) ?_
  refine lv_iload_n hx hb dL_dropRule_3 rfl (lv_at hl 1 rfl) ?_
  refine z_callXi (wc := wL tt a b d wd fa od hd qc qs bc bs tl rl H q w fr tr g re fi ro im r pk cz lh lp se md ff) (wr := [(ao, zoc tt vo)]) (As := [.int p1]) (rest := [.int (0 : Int32), .ref ao]) (ci := 10) ⟨hx, hb, hml, hown, hts⟩ hK hN hX hP hD hS hA9 (nX11_dropRule l G tt sa hlt H0.size K a b d wd fa od hd qc qs bc bs tl rl H q w fr tr g re fi ro im r pk cz lh lp se md ff p1 RR hF) (cwV 1 hts gL_dropRule_X11_dropRule rfl rfl rfl (by decide +kernel) ⟨Nat.le_of_ble_eq_true rfl, Nat.le_of_ble_eq_true rfl⟩) rfl rfl rfl hl.1 rfl (Nat.le_of_ble_eq_true rfl) dL_dropRule_4 ⟨Nat.le_of_ble_eq_true rfl, Nat.le_of_ble_eq_true rfl⟩ (fun k ce q9 H0 locs hk hP hD hS hce hcv hcl => ?_) (fun rr u H0 locs hw hP hD hS => ?_)
  · rcases hA with ⟨k9, hk9, ek, rfl⟩ | ⟨v9, ev, rfl⟩
    · obtain rfl : k9 = k := Sum.inl.inj (ek.symm.trans hk)
      have hk9 : k9 = 0 := by simpa using hk9
      subst hk9
      have hz : zout Int32.toInt64 vo RR.1 = vo := by rw [hk]; rfl
      refine vx_catch (name := zEx 0) hown [] ⟨0, 9, 12, 21⟩ [] (htab.trans rfl) (fun z hz => by
          exact absurd hz List.not_mem_nil) (by decide) (by decide) (hts (.classLink RL 21 (zEx 0)) (List.mem_of_getElem? (i := 1) rfl)) (zX_cast hX 0 (by decide)) hce hcv hcl ?_
      refine lv_astore_n (lv' := [(3, .ref q9), (0, .ref (a 0)), (1, .int p1), (2, .ref ao)]) hx hb dL_dropRule_12 rfl hl (by decide) rfl (fun ls hl => ?_)
      refine lv_iconst (v := (1 : Int32)) hx hb dL_dropRule_13 (by decide) ?_
      exact W.iret (v := (1 : Int32)) hx hb hr (fun t ht hW => ⟨⟨(1 : Int32), RR.2, rfl, ⟨rfl, rfl⟩, by rw [ht, hz]; exact hP, va_K.moved hW.alike hK, by rw [hz]; exact hD⟩, hS.F ht⟩) hS.2.2 dL_dropRule_14
    · cases hk.symm.trans ev
  · obtain ⟨er, hu⟩ := hw
    subst hu
    rcases hA with ⟨k9, hk9, ek, rfl⟩ | ⟨v9, ev, rfl⟩
    · cases er.symm.trans ek
    obtain rfl : v9 = rr := Sum.inr.inj (ev.symm.trans er)
    refine lv_i2l hx hb dL_dropRule_7 rfl ?_
    refine va_last hx hb hK hP hD hS 0 1 rfl rfl (inB_vp (by decide)) dL_dropRule_8 (fun H0 locs hP hD hS => ?_)
    have hP9 : va_P G vwCl ((ao, zoc tt (zout Int32.toInt64 vo RR.1)) :: wL tt a b d wd fa od RR.2.1 qc qs RR.2.2.1 RR.2.2.2.1 tl RR.2.2.2.2.1 (RR.2.2.2.2.2.1, RR.2.2.2.2.2.2.1, RR.2.2.2.2.2.2.2.1, RR.2.2.2.2.2.2.2.2.1, RR.2.2.2.2.2.2.2.2.2.1, RR.2.2.2.2.2.2.2.2.2.2.1, RR.2.2.2.2.2.2.2.2.2.2.2.1, RR.2.2.2.2.2.2.2.2.2.2.2.2.1, RR.2.2.2.2.2.2.2.2.2.2.2.2.2.1, RR.2.2.2.2.2.2.2.2.2.2.2.2.2.2.1, RR.2.2.2.2.2.2.2.2.2.2.2.2.2.2.2.1, RR.2.2.2.2.2.2.2.2.2.2.2.2.2.2.2.2.1) q w fr tr g re fi ro RR.2.2.2.2.2.2.2.2.2.2.2.2.2.2.2.2.2.1 r pk cz lh lp se md RR.2.2.2.2.2.2.2.2.2.2.2.2.2.2.2.2.2.2) H0 := by rw [er]; exact hP
    have hD9 : va_D A ((ao, zoc tt (zout Int32.toInt64 vo RR.1)) :: wL tt a b d wd fa od RR.2.1 qc qs RR.2.2.1 RR.2.2.2.1 tl RR.2.2.2.2.1 (RR.2.2.2.2.2.1, RR.2.2.2.2.2.2.1, RR.2.2.2.2.2.2.2.1, RR.2.2.2.2.2.2.2.2.1, RR.2.2.2.2.2.2.2.2.2.1, RR.2.2.2.2.2.2.2.2.2.2.1, RR.2.2.2.2.2.2.2.2.2.2.2.1, RR.2.2.2.2.2.2.2.2.2.2.2.2.1, RR.2.2.2.2.2.2.2.2.2.2.2.2.2.1, RR.2.2.2.2.2.2.2.2.2.2.2.2.2.2.1, RR.2.2.2.2.2.2.2.2.2.2.2.2.2.2.2.1, RR.2.2.2.2.2.2.2.2.2.2.2.2.2.2.2.2.1) q w fr tr g re fi ro RR.2.2.2.2.2.2.2.2.2.2.2.2.2.2.2.2.2.1 r pk cz lh lp se md RR.2.2.2.2.2.2.2.2.2.2.2.2.2.2.2.2.2.2) := by rw [er]; exact hD
    refine lv_goto (tgt := 15) hx hb dL_dropRule_9 (by decide) ?_
    refine lv_iconst (v := (0 : Int32)) hx hb dL_dropRule_15 (by decide) ?_
    exact W.iret (v := (0 : Int32)) hx hb hr (fun t ht hW => ⟨⟨(0 : Int32), RR.2, rfl, ⟨rfl, rfl⟩, by rw [ht]; exact hP9, va_K.moved hW.alike hK, hD9⟩, hS.F ht⟩) hS.2.2 dL_dropRule_16

set_option maxHeartbeats 4000000 in
set_option maxRecDepth 100000 in
theorem mL_columns (l : Launch) (G : va_G) (tt : Nat → ClassId) (sa : Nat → Nat) (hlt : l.stackTraces = false) (sz : Nat) (a : Nat → Nat) (b : Nat → Nat → Nat) (d : Nat → Nat → Nat → Nat) (wd : Nat → Int32) (fa : Nat → Int64) (od hd : Nat → Int32) (qc : Nat → Nat → Int32) (qs : Nat → Int32) (bc : Nat → Nat → Int32) (bs : Nat → Int32) (tl rl : Int32) (H : zH12) (q : zR13) (w fr : Nat → Int64) (tr g re fi : Nat → Int32) (ro im : Int32) (r : zR15) (pk : Int32) (cz : Nat → Int32) (lh : Int32) (lp : Int64) (se : Nat → Int32) (md : Nat → Int64) (ff : Int32) (p1 : Int32) (ao : Nat) (vo : Nat → Int64) (RR : (Nat ⊕ Int32) × Unit) (hF : fX11_columns wd tl p1 = some RR) (bb : Int32 × Int32) (hA : zAg [0] 0 RR.1 bb) : Met l yL_columns wsL_columns ({ frames := 8, cells := 1, slots := 6, locals := 132 } : Room) (zPreL G (zTy tt) sa [.ref (a 0), .int p1, .ref ao] sz ((ao, zoc tt vo) :: wL tt a b d wd fa od hd qc qs bc bs tl rl H q w fr tr g re fi ro im r pk cz lh lp se md ff)) (va_Qi (fun (r : Int32) (u : Unit) => r = bb.2 ∧ u = RR.2) (zAt G (zTy tt) (va_A ((ao, zoc tt vo) :: wL tt a b d wd fa od hd qc qs bc bs tl rl H q w fr tr g re fi ro im r pk cz lh lp se md ff) sz) (fun _ : Unit => (ao, zoc tt (zout Int32.toInt64 vo RR.1)) :: wL tt a b d wd fa od hd qc qs bc bs tl rl H q w fr tr g re fi ro im r pk cz lh lp se md ff)) (va_A ((ao, zoc tt vo) :: wL tt a b d wd fa od hd qc qs bc bs tl rl H q w fr tr g re fi ro im r pk cz lh lp se md ff) sz)) 1 6 (va_A ((ao, zoc tt vo) :: wL tt a b d wd fa od hd qc qs bc bs tl rl H q w fr tr g re fi ro im r pk cz lh lp se md ff) sz) := by
  refine va_MetW (cc := cL_columns) (maxL := 4) (ret := (some .int)) (hh := [(0, 9, 12, 21)]) (by decide +kernel) rfl ?_
  intro p e s m args below meth c s₁ B hml hv
  obtain ⟨⟨rfl, hsz, hP, hK, hD0, hN, hX⟩, hL⟩ := hv
  have hx := B.exec
  have hb := B.bytes
  have hr := B.returns
  have hts := atoms_spec (ws := wsL_columns) B.pre
  have hown : s.vm.findClass RL = some m.cls := findClass_of_methodNamed B.named
  have hlocks := B.notSynchronized
  have htab : c.exceptionTable.toList = tableOf [(0, 9, 12, 21)] := vx_table (x := yL_columns) B (hts _ List.mem_cons_self)
  subst hsz
  have hD := hD0.self (sz := s.heap.size)
  generalize hAe : va_A ((ao, zoc tt vo) :: wL tt a b d wd fa od hd qc qs bc bs tl rl H q w fr tr g re fi ro im r pk cz lh lp se md ff) s.heap.size = A at hD hX ⊢
  have hA9 : ∀ q : Nat, s.heap.size ≤ q → A q := fun q h => by rw [← hAe]; exact Or.inr h
  have hl := lv_entry ([.ref (a 0), .int p1, .ref ao]) (n := 4) (Nat.le_of_ble_eq_true rfl)
  rw [lg_entry_eq]
  generalize (lg_sl ([.ref (a 0), .int p1, .ref ao]) ++ List.replicate (4 - (lg_sl ([.ref (a 0), .int p1, .ref ao])).length) Slot.unset).toArray = ls at hl ⊢
  have hl : lv_has ls 4 [(0, .ref (a 0)), (1, .int p1), (2, .ref ao)] := hl
  obtain ⟨H0, hHe⟩ : ∃ H : Heap, s.heap = H := ⟨_, rfl⟩
  have hS : va_S A s.heap H0 [] := by rw [← hHe]; exact va_S.rf
  rw [hHe] at hP ⊢
  have hP := zP_perm (List.perm_append_comm (l₁ := [(ao, zoc tt vo)]) (l₂ := wL tt a b d wd fa od hd qc qs bc bs tl rl H q w fr tr g re fi ro im r pk cz lh lp se md ff)) hP
  have hD := zD_perm (List.perm_append_comm (l₁ := [(ao, zoc tt vo)]) (l₂ := wL tt a b d wd fa od hd qc qs bc bs tl rl H q w fr tr g re fi ro im r pk cz lh lp se md ff)) hD
  refine lv_aload_n hx hb dL_columns_0 rfl (lv_at hl 2 rfl) ?_
  refine lv_iconst (v := (0 : Int32)) hx hb dL_columns_1 (by decide) ?_
  refine lv_aload_n hx hb dL_columns_2 rfl (lv_at hl 0 rfl) ?_
  refine lv_iload_n hx hb dL_columns_3 rfl (lv_at hl 1 rfl) ?_
  refine z_callXi (wc := wL tt a b d wd fa od hd qc qs bc bs tl rl H q w fr tr g re fi ro im r pk cz lh lp se md ff) (wr := [(ao, zoc tt vo)]) (As := [.int p1]) (rest := [.int (0 : Int32), .ref ao]) (ci := 10) ⟨hx, hb, hml, hown, hts⟩ hK hN hX hP hD hS hA9 (nX11_columns l G tt sa hlt H0.size a b d wd fa od hd qc qs bc bs tl rl H q w fr tr g re fi ro im r pk cz lh lp se md ff p1 RR hF) (cwV 1 hts gL_columns_X11_columns rfl rfl rfl (by decide +kernel) ⟨Nat.le_of_ble_eq_true rfl, Nat.le_of_ble_eq_true rfl⟩) rfl rfl rfl hl.1 rfl (Nat.le_of_ble_eq_true rfl) dL_columns_4 ⟨Nat.le_of_ble_eq_true rfl, Nat.le_of_ble_eq_true rfl⟩ (fun k ce q9 H0 locs hk hP hD hS hce hcv hcl => ?_) (fun rr u H0 locs hw hP hD hS => ?_)
  · rcases hA with ⟨k9, hk9, ek, rfl⟩ | ⟨v9, ev, rfl⟩
    · obtain rfl : k9 = k := Sum.inl.inj (ek.symm.trans hk)
      have hk9 : k9 = 0 := by simpa using hk9
      subst hk9
      have hz : zout Int32.toInt64 vo RR.1 = vo := by rw [hk]; rfl
      refine vx_catch (name := zEx 0) hown [] ⟨0, 9, 12, 21⟩ [] (htab.trans rfl) (fun z hz => by
          exact absurd hz List.not_mem_nil) (by decide) (by decide) (hts (.classLink RL 21 (zEx 0)) (List.mem_of_getElem? (i := 1) rfl)) (zX_cast hX 0 (by decide)) hce hcv hcl ?_
      refine lv_astore_n (lv' := [(3, .ref q9), (0, .ref (a 0)), (1, .int p1), (2, .ref ao)]) hx hb dL_columns_12 rfl hl (by decide) rfl (fun ls hl => ?_)
      refine lv_iconst (v := (1 : Int32)) hx hb dL_columns_13 (by decide) ?_
      exact W.iret (v := (1 : Int32)) hx hb hr (fun t ht hW => ⟨⟨(1 : Int32), RR.2, rfl, ⟨rfl, rfl⟩, by rw [ht, hz]; exact hP, va_K.moved hW.alike hK, by rw [hz]; exact hD⟩, hS.F ht⟩) hS.2.2 dL_columns_14
    · cases hk.symm.trans ev
  · obtain ⟨er, hu⟩ := hw
    subst hu
    rcases hA with ⟨k9, hk9, ek, rfl⟩ | ⟨v9, ev, rfl⟩
    · cases er.symm.trans ek
    obtain rfl : v9 = rr := Sum.inr.inj (ev.symm.trans er)
    refine lv_i2l hx hb dL_columns_7 rfl ?_
    refine va_last hx hb hK hP hD hS 0 1 rfl rfl (inB_vp (by decide)) dL_columns_8 (fun H0 locs hP hD hS => ?_)
    have hP9 : va_P G vwCl ((ao, zoc tt (zout Int32.toInt64 vo RR.1)) :: wL tt a b d wd fa od hd qc qs bc bs tl rl H q w fr tr g re fi ro im r pk cz lh lp se md ff) H0 := by rw [er]; exact hP
    have hD9 : va_D A ((ao, zoc tt (zout Int32.toInt64 vo RR.1)) :: wL tt a b d wd fa od hd qc qs bc bs tl rl H q w fr tr g re fi ro im r pk cz lh lp se md ff) := by rw [er]; exact hD
    refine lv_goto (tgt := 15) hx hb dL_columns_9 (by decide) ?_
    refine lv_iconst (v := (0 : Int32)) hx hb dL_columns_15 (by decide) ?_
    exact W.iret (v := (0 : Int32)) hx hb hr (fun t ht hW => ⟨⟨(0 : Int32), RR.2, rfl, ⟨rfl, rfl⟩, by rw [ht]; exact hP9, va_K.moved hW.alike hK, hD9⟩, hS.F ht⟩) hS.2.2 dL_columns_16

set_option maxHeartbeats 4000000 in
set_option maxRecDepth 100000 in
theorem mL_factCount (l : Launch) (G : va_G) (tt : Nat → ClassId) (sa : Nat → Nat) (hlt : l.stackTraces = false) (sz : Nat) (K : Nat) (a : Nat → Nat) (b : Nat → Nat → Nat) (d : Nat → Nat → Nat → Nat) (wd : Nat → Int32) (fa : Nat → Int64) (od hd : Nat → Int32) (qc : Nat → Nat → Int32) (qs : Nat → Int32) (bc : Nat → Nat → Int32) (bs : Nat → Int32) (tl rl : Int32) (H : zH12) (q : zR13) (w fr : Nat → Int64) (tr g re fi : Nat → Int32) (ro im : Int32) (r : zR15) (pk : Int32) (cz : Nat → Int32) (lh : Int32) (lp : Int64) (se : Nat → Int32) (md : Nat → Int64) (ff : Int32) (p1 : Int32) (ao : Nat) (vo : Nat → Int64) (RR : (Nat ⊕ Int32) × Unit) (hF : fX11_factCount K fa tl p1 = some RR) (bb : Int32 × Int32) (hA : zAg [0] 0 RR.1 bb) : Met l yL_factCount wsL_factCount ({ frames := 8, cells := 1, slots := 6, locals := 132 } : Room) (zPreL G (zTy tt) sa [.ref (a 0), .int p1, .ref ao] sz ((ao, zoc tt vo) :: wL tt a b d wd fa od hd qc qs bc bs tl rl H q w fr tr g re fi ro im r pk cz lh lp se md ff)) (va_Qi (fun (r : Int32) (u : Unit) => r = bb.2 ∧ u = RR.2) (zAt G (zTy tt) (va_A ((ao, zoc tt vo) :: wL tt a b d wd fa od hd qc qs bc bs tl rl H q w fr tr g re fi ro im r pk cz lh lp se md ff) sz) (fun _ : Unit => (ao, zoc tt (zout Int32.toInt64 vo RR.1)) :: wL tt a b d wd fa od hd qc qs bc bs tl rl H q w fr tr g re fi ro im r pk cz lh lp se md ff)) (va_A ((ao, zoc tt vo) :: wL tt a b d wd fa od hd qc qs bc bs tl rl H q w fr tr g re fi ro im r pk cz lh lp se md ff) sz)) 1 6 (va_A ((ao, zoc tt vo) :: wL tt a b d wd fa od hd qc qs bc bs tl rl H q w fr tr g re fi ro im r pk cz lh lp se md ff) sz) := by
  refine va_MetW (cc := cL_factCount) (maxL := 4) (ret := (some .int)) (hh := [(0, 9, 12, 21)]) (by decide +kernel) rfl ?_
  intro p e s m args below meth c s₁ B hml hv
  obtain ⟨⟨rfl, hsz, hP, hK, hD0, hN, hX⟩, hL⟩ := hv
  have hx := B.exec
  have hb := B.bytes
  have hr := B.returns
  have hts := atoms_spec (ws := wsL_factCount) B.pre
  have hown : s.vm.findClass RL = some m.cls := findClass_of_methodNamed B.named
  have hlocks := B.notSynchronized
  have htab : c.exceptionTable.toList = tableOf [(0, 9, 12, 21)] := vx_table (x := yL_factCount) B (hts _ List.mem_cons_self)
  subst hsz
  have hD := hD0.self (sz := s.heap.size)
  generalize hAe : va_A ((ao, zoc tt vo) :: wL tt a b d wd fa od hd qc qs bc bs tl rl H q w fr tr g re fi ro im r pk cz lh lp se md ff) s.heap.size = A at hD hX ⊢
  have hA9 : ∀ q : Nat, s.heap.size ≤ q → A q := fun q h => by rw [← hAe]; exact Or.inr h
  have hl := lv_entry ([.ref (a 0), .int p1, .ref ao]) (n := 4) (Nat.le_of_ble_eq_true rfl)
  rw [lg_entry_eq]
  generalize (lg_sl ([.ref (a 0), .int p1, .ref ao]) ++ List.replicate (4 - (lg_sl ([.ref (a 0), .int p1, .ref ao])).length) Slot.unset).toArray = ls at hl ⊢
  have hl : lv_has ls 4 [(0, .ref (a 0)), (1, .int p1), (2, .ref ao)] := hl
  obtain ⟨H0, hHe⟩ : ∃ H : Heap, s.heap = H := ⟨_, rfl⟩
  have hS : va_S A s.heap H0 [] := by rw [← hHe]; exact va_S.rf
  rw [hHe] at hP ⊢
  have hP := zP_perm (List.perm_append_comm (l₁ := [(ao, zoc tt vo)]) (l₂ := wL tt a b d wd fa od hd qc qs bc bs tl rl H q w fr tr g re fi ro im r pk cz lh lp se md ff)) hP
  have hD := zD_perm (List.perm_append_comm (l₁ := [(ao, zoc tt vo)]) (l₂ := wL tt a b d wd fa od hd qc qs bc bs tl rl H q w fr tr g re fi ro im r pk cz lh lp se md ff)) hD
  refine lv_aload_n hx hb dL_factCount_0 rfl (lv_at hl 2 rfl) ?_
  refine lv_iconst (v := (0 : Int32)) hx hb dL_factCount_1 (by decide) ?_
  refine lv_aload_n hx hb dL_factCount_2 rfl (lv_at hl 0 rfl) ?_
  refine lv_iload_n hx hb dL_factCount_3 rfl (lv_at hl 1 rfl) ?_
  refine z_callXi (wc := wL tt a b d wd fa od hd qc qs bc bs tl rl H q w fr tr g re fi ro im r pk cz lh lp se md ff) (wr := [(ao, zoc tt vo)]) (As := [.int p1]) (rest := [.int (0 : Int32), .ref ao]) (ci := 10) ⟨hx, hb, hml, hown, hts⟩ hK hN hX hP hD hS hA9 (nX11_factCount l G tt sa hlt H0.size K a b d wd fa od hd qc qs bc bs tl rl H q w fr tr g re fi ro im r pk cz lh lp se md ff p1 RR hF) (cwV 1 hts gL_factCount_X11_factCount rfl rfl rfl (by decide +kernel) ⟨Nat.le_of_ble_eq_true rfl, Nat.le_of_ble_eq_true rfl⟩) rfl rfl rfl hl.1 rfl (Nat.le_of_ble_eq_true rfl) dL_factCount_4 ⟨Nat.le_of_ble_eq_true rfl, Nat.le_of_ble_eq_true rfl⟩ (fun k ce q9 H0 locs hk hP hD hS hce hcv hcl => ?_) (fun rr u H0 locs hw hP hD hS => ?_)
  · rcases hA with ⟨k9, hk9, ek, rfl⟩ | ⟨v9, ev, rfl⟩
    · obtain rfl : k9 = k := Sum.inl.inj (ek.symm.trans hk)
      have hk9 : k9 = 0 := by simpa using hk9
      subst hk9
      have hz : zout Int32.toInt64 vo RR.1 = vo := by rw [hk]; rfl
      refine vx_catch (name := zEx 0) hown [] ⟨0, 9, 12, 21⟩ [] (htab.trans rfl) (fun z hz => by
          exact absurd hz List.not_mem_nil) (by decide) (by decide) (hts (.classLink RL 21 (zEx 0)) (List.mem_of_getElem? (i := 1) rfl)) (zX_cast hX 0 (by decide)) hce hcv hcl ?_
      refine lv_astore_n (lv' := [(3, .ref q9), (0, .ref (a 0)), (1, .int p1), (2, .ref ao)]) hx hb dL_factCount_12 rfl hl (by decide) rfl (fun ls hl => ?_)
      refine lv_iconst (v := (1 : Int32)) hx hb dL_factCount_13 (by decide) ?_
      exact W.iret (v := (1 : Int32)) hx hb hr (fun t ht hW => ⟨⟨(1 : Int32), RR.2, rfl, ⟨rfl, rfl⟩, by rw [ht, hz]; exact hP, va_K.moved hW.alike hK, by rw [hz]; exact hD⟩, hS.F ht⟩) hS.2.2 dL_factCount_14
    · cases hk.symm.trans ev
  · obtain ⟨er, hu⟩ := hw
    subst hu
    rcases hA with ⟨k9, hk9, ek, rfl⟩ | ⟨v9, ev, rfl⟩
    · cases er.symm.trans ek
    obtain rfl : v9 = rr := Sum.inr.inj (ev.symm.trans er)
    refine lv_i2l hx hb dL_factCount_7 rfl ?_
    refine va_last hx hb hK hP hD hS 0 1 rfl rfl (inB_vp (by decide)) dL_factCount_8 (fun H0 locs hP hD hS => ?_)
    have hP9 : va_P G vwCl ((ao, zoc tt (zout Int32.toInt64 vo RR.1)) :: wL tt a b d wd fa od hd qc qs bc bs tl rl H q w fr tr g re fi ro im r pk cz lh lp se md ff) H0 := by rw [er]; exact hP
    have hD9 : va_D A ((ao, zoc tt (zout Int32.toInt64 vo RR.1)) :: wL tt a b d wd fa od hd qc qs bc bs tl rl H q w fr tr g re fi ro im r pk cz lh lp se md ff) := by rw [er]; exact hD
    refine lv_goto (tgt := 15) hx hb dL_factCount_9 (by decide) ?_
    refine lv_iconst (v := (0 : Int32)) hx hb dL_factCount_15 (by decide) ?_
    exact W.iret (v := (0 : Int32)) hx hb hr (fun t ht hW => ⟨⟨(0 : Int32), RR.2, rfl, ⟨rfl, rfl⟩, by rw [ht]; exact hP9, va_K.moved hW.alike hK, hD9⟩, hS.F ht⟩) hS.2.2 dL_factCount_16

set_option maxHeartbeats 4000000 in
set_option maxRecDepth 100000 in
theorem mL_rowCount (l : Launch) (G : va_G) (tt : Nat → ClassId) (sa : Nat → Nat) (hlt : l.stackTraces = false) (sz : Nat) (K : Nat) (a : Nat → Nat) (b : Nat → Nat → Nat) (d : Nat → Nat → Nat → Nat) (wd : Nat → Int32) (fa : Nat → Int64) (od hd : Nat → Int32) (qc : Nat → Nat → Int32) (qs : Nat → Int32) (bc : Nat → Nat → Int32) (bs : Nat → Int32) (tl rl : Int32) (H : zH12) (q : zR13) (w fr : Nat → Int64) (tr g re fi : Nat → Int32) (ro im : Int32) (r : zR15) (pk : Int32) (cz : Nat → Int32) (lh : Int32) (lp : Int64) (se : Nat → Int32) (md : Nat → Int64) (ff : Int32) (p1 : Int32) (ao : Nat) (vo : Nat → Int64) (RR : (Nat ⊕ Int32) × (Nat → Int32) × Int32 × (Nat → Int32) × (Nat → Int32) × (Nat → Int32) × (Nat → Int32) × (Nat → Int32) × (Nat → Int32) × Int32 × Int32 × Int32 × Int32 × Int32 × (Nat → Int64) × (Nat → Int64) × (Nat → Int32) × (Nat → Int32) × (Nat → Int32) × Int32 × Int32) (hF : fX11_rowCount K fa hd bc bs tl rl p1 q.1 q.2.1 q.2.2.1 q.2.2.2.1 q.2.2.2.2.1 q.2.2.2.2.2.1 q.2.2.2.2.2.2.1 q.2.2.2.2.2.2.2.1 q.2.2.2.2.2.2.2.2.1 q.2.2.2.2.2.2.2.2.2.1 q.2.2.2.2.2.2.2.2.2.2.1 q.2.2.2.2.2.2.2.2.2.2.2.1 q.2.2.2.2.2.2.2.2.2.2.2.2 w fr g re fi ro im = some RR) (bb : Int32 × Int32) (hA : zAg [0] 0 RR.1 bb) : Met l yL_rowCount wsL_rowCount ({ frames := 8, cells := 1, slots := 6, locals := 185 } : Room) (zPreL G (zTy tt) sa [.ref (a 0), .int p1, .ref ao] sz ((ao, zoc tt vo) :: wL tt a b d wd fa od hd qc qs bc bs tl rl H q w fr tr g re fi ro im r pk cz lh lp se md ff)) (va_Qi (fun (r : Int32) (u : (Nat → Int32) × Int32 × (Nat → Int32) × (Nat → Int32) × (Nat → Int32) × (Nat → Int32) × (Nat → Int32) × (Nat → Int32) × Int32 × Int32 × Int32 × Int32 × Int32 × (Nat → Int64) × (Nat → Int64) × (Nat → Int32) × (Nat → Int32) × (Nat → Int32) × Int32 × Int32) => r = bb.2 ∧ u = RR.2) (zAt G (zTy tt) (va_A ((ao, zoc tt vo) :: wL tt a b d wd fa od hd qc qs bc bs tl rl H q w fr tr g re fi ro im r pk cz lh lp se md ff) sz) (fun u : (Nat → Int32) × Int32 × (Nat → Int32) × (Nat → Int32) × (Nat → Int32) × (Nat → Int32) × (Nat → Int32) × (Nat → Int32) × Int32 × Int32 × Int32 × Int32 × Int32 × (Nat → Int64) × (Nat → Int64) × (Nat → Int32) × (Nat → Int32) × (Nat → Int32) × Int32 × Int32 => (ao, zoc tt (zout Int32.toInt64 vo RR.1)) :: wL tt a b d wd fa od hd qc qs bc bs tl rl H (u.1, u.2.1, u.2.2.1, u.2.2.2.1, u.2.2.2.2.1, u.2.2.2.2.2.1, u.2.2.2.2.2.2.1, u.2.2.2.2.2.2.2.1, u.2.2.2.2.2.2.2.2.1, u.2.2.2.2.2.2.2.2.2.1, u.2.2.2.2.2.2.2.2.2.2.1, u.2.2.2.2.2.2.2.2.2.2.2.1, u.2.2.2.2.2.2.2.2.2.2.2.2.1) u.2.2.2.2.2.2.2.2.2.2.2.2.2.1 u.2.2.2.2.2.2.2.2.2.2.2.2.2.2.1 tr u.2.2.2.2.2.2.2.2.2.2.2.2.2.2.2.1 u.2.2.2.2.2.2.2.2.2.2.2.2.2.2.2.2.1 u.2.2.2.2.2.2.2.2.2.2.2.2.2.2.2.2.2.1 u.2.2.2.2.2.2.2.2.2.2.2.2.2.2.2.2.2.2.1 u.2.2.2.2.2.2.2.2.2.2.2.2.2.2.2.2.2.2.2 r pk cz lh lp se md ff)) (va_A ((ao, zoc tt vo) :: wL tt a b d wd fa od hd qc qs bc bs tl rl H q w fr tr g re fi ro im r pk cz lh lp se md ff) sz)) 1 6 (va_A ((ao, zoc tt vo) :: wL tt a b d wd fa od hd qc qs bc bs tl rl H q w fr tr g re fi ro im r pk cz lh lp se md ff) sz) := by
  refine va_MetW (cc := cL_rowCount) (maxL := 4) (ret := (some .int)) (hh := [(0, 9, 12, 21)]) (by decide +kernel) rfl ?_
  intro p e s m args below meth c s₁ B hml hv
  obtain ⟨⟨rfl, hsz, hP, hK, hD0, hN, hX⟩, hL⟩ := hv
  have hx := B.exec
  have hb := B.bytes
  have hr := B.returns
  have hts := atoms_spec (ws := wsL_rowCount) B.pre
  have hown : s.vm.findClass RL = some m.cls := findClass_of_methodNamed B.named
  have hlocks := B.notSynchronized
  have htab : c.exceptionTable.toList = tableOf [(0, 9, 12, 21)] := vx_table (x := yL_rowCount) B (hts _ List.mem_cons_self)
  subst hsz
  have hD := hD0.self (sz := s.heap.size)
  generalize hAe : va_A ((ao, zoc tt vo) :: wL tt a b d wd fa od hd qc qs bc bs tl rl H q w fr tr g re fi ro im r pk cz lh lp se md ff) s.heap.size = A at hD hX ⊢
  have hA9 : ∀ q : Nat, s.heap.size ≤ q → A q := fun q h => by rw [← hAe]; exact Or.inr h
  have hl := lv_entry ([.ref (a 0), .int p1, .ref ao]) (n := 4) (Nat.le_of_ble_eq_true rfl)
  rw [lg_entry_eq]
  generalize (lg_sl ([.ref (a 0), .int p1, .ref ao]) ++ List.replicate (4 - (lg_sl ([.ref (a 0), .int p1, .ref ao])).length) Slot.unset).toArray = ls at hl ⊢
  have hl : lv_has ls 4 [(0, .ref (a 0)), (1, .int p1), (2, .ref ao)] := hl
  obtain ⟨H0, hHe⟩ : ∃ H : Heap, s.heap = H := ⟨_, rfl⟩
  have hS : va_S A s.heap H0 [] := by rw [← hHe]; exact va_S.rf
  rw [hHe] at hP ⊢
  have hP := zP_perm (List.perm_append_comm (l₁ := [(ao, zoc tt vo)]) (l₂ := wL tt a b d wd fa od hd qc qs bc bs tl rl H q w fr tr g re fi ro im r pk cz lh lp se md ff)) hP
  have hD := zD_perm (List.perm_append_comm (l₁ := [(ao, zoc tt vo)]) (l₂ := wL tt a b d wd fa od hd qc qs bc bs tl rl H q w fr tr g re fi ro im r pk cz lh lp se md ff)) hD
  refine lv_aload_n hx hb dL_rowCount_0 rfl (lv_at hl 2 rfl) ?_
  refine lv_iconst (v := (0 : Int32)) hx hb dL_rowCount_1 (by decide) ?_
  refine lv_aload_n hx hb dL_rowCount_2 rfl (lv_at hl 0 rfl) ?_
  refine lv_iload_n hx hb dL_rowCount_3 rfl (lv_at hl 1 rfl) ?_
  refine z_callXi (wc := wL tt a b d wd fa od hd qc qs bc bs tl rl H q w fr tr g re fi ro im r pk cz lh lp se md ff) (wr := [(ao, zoc tt vo)]) (As := [.int p1]) (rest := [.int (0 : Int32), .ref ao]) (ci := 10) ⟨hx, hb, hml, hown, hts⟩ hK hN hX hP hD hS hA9 (nX11_rowCount l G tt sa hlt H0.size K a b d wd fa od hd qc qs bc bs tl rl H q w fr tr g re fi ro im r pk cz lh lp se md ff p1 RR hF) (cwV 1 hts gL_rowCount_X11_rowCount rfl rfl rfl (by decide +kernel) ⟨Nat.le_of_ble_eq_true rfl, Nat.le_of_ble_eq_true rfl⟩) rfl rfl rfl hl.1 rfl (Nat.le_of_ble_eq_true rfl) dL_rowCount_4 ⟨Nat.le_of_ble_eq_true rfl, Nat.le_of_ble_eq_true rfl⟩ (fun k ce q9 H0 locs hk hP hD hS hce hcv hcl => ?_) (fun rr u H0 locs hw hP hD hS => ?_)
  · rcases hA with ⟨k9, hk9, ek, rfl⟩ | ⟨v9, ev, rfl⟩
    · obtain rfl : k9 = k := Sum.inl.inj (ek.symm.trans hk)
      have hk9 : k9 = 0 := by simpa using hk9
      subst hk9
      have hz : zout Int32.toInt64 vo RR.1 = vo := by rw [hk]; rfl
      refine vx_catch (name := zEx 0) hown [] ⟨0, 9, 12, 21⟩ [] (htab.trans rfl) (fun z hz => by
          exact absurd hz List.not_mem_nil) (by decide) (by decide) (hts (.classLink RL 21 (zEx 0)) (List.mem_of_getElem? (i := 1) rfl)) (zX_cast hX 0 (by decide)) hce hcv hcl ?_
      refine lv_astore_n (lv' := [(3, .ref q9), (0, .ref (a 0)), (1, .int p1), (2, .ref ao)]) hx hb dL_rowCount_12 rfl hl (by decide) rfl (fun ls hl => ?_)
      refine lv_iconst (v := (1 : Int32)) hx hb dL_rowCount_13 (by decide) ?_
      exact W.iret (v := (1 : Int32)) hx hb hr (fun t ht hW => ⟨⟨(1 : Int32), RR.2, rfl, ⟨rfl, rfl⟩, by rw [ht, hz]; exact hP, va_K.moved hW.alike hK, by rw [hz]; exact hD⟩, hS.F ht⟩) hS.2.2 dL_rowCount_14
    · cases hk.symm.trans ev
  · obtain ⟨er, hu⟩ := hw
    subst hu
    rcases hA with ⟨k9, hk9, ek, rfl⟩ | ⟨v9, ev, rfl⟩
    · cases er.symm.trans ek
    obtain rfl : v9 = rr := Sum.inr.inj (ev.symm.trans er)
    refine lv_i2l hx hb dL_rowCount_7 rfl ?_
    refine va_last hx hb hK hP hD hS 0 1 rfl rfl (inB_vp (by decide)) dL_rowCount_8 (fun H0 locs hP hD hS => ?_)
    have hP9 : va_P G vwCl ((ao, zoc tt (zout Int32.toInt64 vo RR.1)) :: wL tt a b d wd fa od hd qc qs bc bs tl rl H (RR.2.1, RR.2.2.1, RR.2.2.2.1, RR.2.2.2.2.1, RR.2.2.2.2.2.1, RR.2.2.2.2.2.2.1, RR.2.2.2.2.2.2.2.1, RR.2.2.2.2.2.2.2.2.1, RR.2.2.2.2.2.2.2.2.2.1, RR.2.2.2.2.2.2.2.2.2.2.1, RR.2.2.2.2.2.2.2.2.2.2.2.1, RR.2.2.2.2.2.2.2.2.2.2.2.2.1, RR.2.2.2.2.2.2.2.2.2.2.2.2.2.1) RR.2.2.2.2.2.2.2.2.2.2.2.2.2.2.1 RR.2.2.2.2.2.2.2.2.2.2.2.2.2.2.2.1 tr RR.2.2.2.2.2.2.2.2.2.2.2.2.2.2.2.2.1 RR.2.2.2.2.2.2.2.2.2.2.2.2.2.2.2.2.2.1 RR.2.2.2.2.2.2.2.2.2.2.2.2.2.2.2.2.2.2.1 RR.2.2.2.2.2.2.2.2.2.2.2.2.2.2.2.2.2.2.2.1 RR.2.2.2.2.2.2.2.2.2.2.2.2.2.2.2.2.2.2.2.2 r pk cz lh lp se md ff) H0 := by rw [er]; exact hP
    have hD9 : va_D A ((ao, zoc tt (zout Int32.toInt64 vo RR.1)) :: wL tt a b d wd fa od hd qc qs bc bs tl rl H (RR.2.1, RR.2.2.1, RR.2.2.2.1, RR.2.2.2.2.1, RR.2.2.2.2.2.1, RR.2.2.2.2.2.2.1, RR.2.2.2.2.2.2.2.1, RR.2.2.2.2.2.2.2.2.1, RR.2.2.2.2.2.2.2.2.2.1, RR.2.2.2.2.2.2.2.2.2.2.1, RR.2.2.2.2.2.2.2.2.2.2.2.1, RR.2.2.2.2.2.2.2.2.2.2.2.2.1, RR.2.2.2.2.2.2.2.2.2.2.2.2.2.1) RR.2.2.2.2.2.2.2.2.2.2.2.2.2.2.1 RR.2.2.2.2.2.2.2.2.2.2.2.2.2.2.2.1 tr RR.2.2.2.2.2.2.2.2.2.2.2.2.2.2.2.2.1 RR.2.2.2.2.2.2.2.2.2.2.2.2.2.2.2.2.2.1 RR.2.2.2.2.2.2.2.2.2.2.2.2.2.2.2.2.2.2.1 RR.2.2.2.2.2.2.2.2.2.2.2.2.2.2.2.2.2.2.2.1 RR.2.2.2.2.2.2.2.2.2.2.2.2.2.2.2.2.2.2.2.2 r pk cz lh lp se md ff) := by rw [er]; exact hD
    refine lv_goto (tgt := 15) hx hb dL_rowCount_9 (by decide) ?_
    refine lv_iconst (v := (0 : Int32)) hx hb dL_rowCount_15 (by decide) ?_
    exact W.iret (v := (0 : Int32)) hx hb hr (fun t ht hW => ⟨⟨(0 : Int32), RR.2, rfl, ⟨rfl, rfl⟩, by rw [ht]; exact hP9, va_K.moved hW.alike hK, hD9⟩, hS.F ht⟩) hS.2.2 dL_rowCount_16

set_option maxHeartbeats 4000000 in
set_option maxRecDepth 100000 in
theorem mL_isFact (l : Launch) (G : va_G) (tt : Nat → ClassId) (sa : Nat → Nat) (hlt : l.stackTraces = false) (sz : Nat) (a : Nat → Nat) (b : Nat → Nat → Nat) (d : Nat → Nat → Nat → Nat) (wd : Nat → Int32) (fa : Nat → Int64) (od hd : Nat → Int32) (qc : Nat → Nat → Int32) (qs : Nat → Int32) (bc : Nat → Nat → Int32) (bs : Nat → Int32) (tl rl : Int32) (H : zH12) (q : zR13) (w fr : Nat → Int64) (tr g re fi : Nat → Int32) (ro im : Int32) (r : zR15) (pk : Int32) (cz : Nat → Int32) (lh : Int32) (lp : Int64) (se : Nat → Int32) (md : Nat → Int64) (ff : Int32) (p1 : Int32) (p2 : Int32) (p3 : Int32) (p4 : Int32) (ao : Nat) (vo : Nat → Int64) (RR : (Nat ⊕ Bool) × Unit) (hF : fX11_isFact wd fa tl p1 p2 p3 p4 = some RR) (bb : Bool × Int32) (hA : zAg [0, 1] false RR.1 bb) : Met l yL_isFact wsL_isFact ({ frames := 8, cells := 2, slots := 12, locals := 138 } : Room) (zPreL G (zTy tt) sa [.ref (a 0), .int p1, .int p2, .int p3, .int p4, .ref ao] sz ((ao, zoc tt vo) :: wL tt a b d wd fa od hd qc qs bc bs tl rl H q w fr tr g re fi ro im r pk cz lh lp se md ff)) (va_Qi (fun (r : Int32) (u : Unit) => r = bb.2 ∧ u = RR.2) (zAt G (zTy tt) (va_A ((ao, zoc tt vo) :: wL tt a b d wd fa od hd qc qs bc bs tl rl H q w fr tr g re fi ro im r pk cz lh lp se md ff) sz) (fun _ : Unit => (ao, zoc tt (zout zbL vo RR.1)) :: wL tt a b d wd fa od hd qc qs bc bs tl rl H q w fr tr g re fi ro im r pk cz lh lp se md ff)) (va_A ((ao, zoc tt vo) :: wL tt a b d wd fa od hd qc qs bc bs tl rl H q w fr tr g re fi ro im r pk cz lh lp se md ff) sz)) 2 12 (va_A ((ao, zoc tt vo) :: wL tt a b d wd fa od hd qc qs bc bs tl rl H q w fr tr g re fi ro im r pk cz lh lp se md ff) sz) := by
  refine va_MetW (cc := cL_isFact) (maxL := 7) (ret := (some .int)) (hh := [(0, 21, 24, 21), (0, 21, 28, 13)]) (by decide +kernel) rfl ?_
  intro p e s m args below meth c s₁ B hml hv
  obtain ⟨⟨rfl, hsz, hP, hK, hD0, hN, hX⟩, hL⟩ := hv
  have hx := B.exec
  have hb := B.bytes
  have hr := B.returns
  have hts := atoms_spec (ws := wsL_isFact) B.pre
  have hown : s.vm.findClass RL = some m.cls := findClass_of_methodNamed B.named
  have hlocks := B.notSynchronized
  have htab : c.exceptionTable.toList = tableOf [(0, 21, 24, 21), (0, 21, 28, 13)] := vx_table (x := yL_isFact) B (hts _ List.mem_cons_self)
  subst hsz
  have hD := hD0.self (sz := s.heap.size)
  generalize hAe : va_A ((ao, zoc tt vo) :: wL tt a b d wd fa od hd qc qs bc bs tl rl H q w fr tr g re fi ro im r pk cz lh lp se md ff) s.heap.size = A at hD hX ⊢
  have hA9 : ∀ q : Nat, s.heap.size ≤ q → A q := fun q h => by rw [← hAe]; exact Or.inr h
  have hl := lv_entry ([.ref (a 0), .int p1, .int p2, .int p3, .int p4, .ref ao]) (n := 7) (Nat.le_of_ble_eq_true rfl)
  rw [lg_entry_eq]
  generalize (lg_sl ([.ref (a 0), .int p1, .int p2, .int p3, .int p4, .ref ao]) ++ List.replicate (7 - (lg_sl ([.ref (a 0), .int p1, .int p2, .int p3, .int p4, .ref ao])).length) Slot.unset).toArray = ls at hl ⊢
  have hl : lv_has ls 7 [(0, .ref (a 0)), (1, .int p1), (2, .int p2), (3, .int p3), (4, .int p4), (5, .ref ao)] := hl
  obtain ⟨H0, hHe⟩ : ∃ H : Heap, s.heap = H := ⟨_, rfl⟩
  have hS : va_S A s.heap H0 [] := by rw [← hHe]; exact va_S.rf
  rw [hHe] at hP ⊢
  have hP := zP_perm (List.perm_append_comm (l₁ := [(ao, zoc tt vo)]) (l₂ := wL tt a b d wd fa od hd qc qs bc bs tl rl H q w fr tr g re fi ro im r pk cz lh lp se md ff)) hP
  have hD := zD_perm (List.perm_append_comm (l₁ := [(ao, zoc tt vo)]) (l₂ := wL tt a b d wd fa od hd qc qs bc bs tl rl H q w fr tr g re fi ro im r pk cz lh lp se md ff)) hD
  refine lv_aload hx hb dL_isFact_0 (lv_at hl 5 rfl) ?_
  refine lv_iconst (v := (0 : Int32)) hx hb dL_isFact_2 (by decide) ?_
  refine lv_aload_n hx hb dL_isFact_3 rfl (lv_at hl 0 rfl) ?_
  refine lv_iload_n hx hb dL_isFact_4 rfl (lv_at hl 1 rfl) ?_
  refine lv_iload_n hx hb dL_isFact_5 rfl (lv_at hl 2 rfl) ?_
  refine lv_iload_n hx hb dL_isFact_6 rfl (lv_at hl 3 rfl) ?_
  refine lv_iload hx hb dL_isFact_7 (lv_at hl 4 rfl) ?_
  refine z_callXi (wc := wL tt a b d wd fa od hd qc qs bc bs tl rl H q w fr tr g re fi ro im r pk cz lh lp se md ff) (wr := [(ao, zoc tt vo)]) (As := [.int p1, .int p2, .int p3, .int p4]) (rest := [.int (0 : Int32), .ref ao]) (ci := 10) ⟨hx, hb, hml, hown, hts⟩ hK hN hX hP hD hS hA9 (nX11_isFact l G tt sa hlt H0.size a b d wd fa od hd qc qs bc bs tl rl H q w fr tr g re fi ro im r pk cz lh lp se md ff p1 p2 p3 p4 RR hF) (cwV 4 hts gL_isFact_X11_isFact rfl rfl rfl (by decide +kernel) ⟨Nat.le_of_ble_eq_true rfl, Nat.le_of_ble_eq_true rfl⟩) rfl rfl rfl hl.1 rfl (Nat.le_of_ble_eq_true rfl) dL_isFact_9 ⟨Nat.le_of_ble_eq_true rfl, Nat.le_of_ble_eq_true rfl⟩ (fun k ce q9 H0 locs hk hP hD hS hce hcv hcl => ?_) (fun rr u H0 locs hw hP hD hS => ?_)
  · rcases hA with ⟨k9, hk9, ek, rfl⟩ | ⟨v9, ev, rfl⟩
    · obtain rfl : k9 = k := Sum.inl.inj (ek.symm.trans hk)
      have hk9 : k9 = 0 ∨ k9 = 1 := by simpa using hk9
      rcases hk9 with rfl | rfl
      · have hz : zout zbL vo RR.1 = vo := by rw [hk]; rfl
        refine vx_catch (name := zEx 0) hown [] ⟨0, 21, 24, 21⟩ [⟨0, 21, 28, 13⟩] (htab.trans rfl) (fun z hz => by
            exact absurd hz List.not_mem_nil) (by decide) (by decide) (hts (.classLink RL 21 (zEx 0)) (List.mem_of_getElem? (i := 1) rfl)) (zX_cast hX 0 (by decide)) hce hcv hcl ?_
        refine lv_astore (lv' := [(6, .ref q9), (0, .ref (a 0)), (1, .int p1), (2, .int p2), (3, .int p3), (4, .int p4), (5, .ref ao)]) hx hb dL_isFact_24 hl (by decide) rfl (fun ls hl => ?_)
        refine lv_iconst (v := (1 : Int32)) hx hb dL_isFact_26 (by decide) ?_
        exact W.iret (v := (1 : Int32)) hx hb hr (fun t ht hW => ⟨⟨(1 : Int32), RR.2, rfl, ⟨rfl, rfl⟩, by rw [ht, hz]; exact hP, va_K.moved hW.alike hK, by rw [hz]; exact hD⟩, hS.F ht⟩) hS.2.2 dL_isFact_27
      · have hz : zout zbL vo RR.1 = vo := by rw [hk]; rfl
        refine vx_catch (name := zEx 1) hown [⟨0, 21, 24, 21⟩] ⟨0, 21, 28, 13⟩ [] (htab.trans rfl) (fun z hz => by
            rcases List.mem_cons.mp hz with rfl | hz
            · exact Or.inr ⟨by decide, zEx 0, (hts (.classLink RL 21 (zEx 0)) (List.mem_of_getElem? (i := 1) rfl)), hL 1 0 (by decide) (by decide) (by decide)⟩
            exact absurd hz List.not_mem_nil) (by decide) (by decide) (hts (.classLink RL 13 (zEx 1)) (List.mem_of_getElem? (i := 2) rfl)) (zX_cast hX 1 (by decide)) hce hcv hcl ?_
        refine lv_astore (lv' := [(6, .ref q9), (0, .ref (a 0)), (1, .int p1), (2, .int p2), (3, .int p3), (4, .int p4), (5, .ref ao)]) hx hb dL_isFact_28 hl (by decide) rfl (fun ls hl => ?_)
        refine lv_iconst (v := (2 : Int32)) hx hb dL_isFact_30 (by decide) ?_
        exact W.iret (v := (2 : Int32)) hx hb hr (fun t ht hW => ⟨⟨(2 : Int32), RR.2, rfl, ⟨rfl, rfl⟩, by rw [ht, hz]; exact hP, va_K.moved hW.alike hK, by rw [hz]; exact hD⟩, hS.F ht⟩) hS.2.2 dL_isFact_31
    · cases hk.symm.trans ev
  · obtain ⟨⟨bq, er, rfl⟩, hu⟩ := hw
    subst hu
    rcases hA with ⟨k9, hk9, ek, rfl⟩ | ⟨v9, ev, rfl⟩
    · cases er.symm.trans ek
    obtain rfl : v9 = bq := Sum.inr.inj (ev.symm.trans er)
    cases v9
    · refine lv_if_eq (tgt := 19) hx hb dL_isFact_12 (by decide) (fun _ => ?_) (fun h9 => absurd rfl h9)
      refine lv_lconst (v := (0 : Int64)) hx hb dL_isFact_19 (by decide) ?_
      refine va_last hx hb hK hP hD hS 0 1 rfl rfl (inB_vp (by decide)) dL_isFact_20 (fun H0 locs hP hD hS => ?_)
      have hP9 : va_P G vwCl ((ao, zoc tt (zout zbL vo RR.1)) :: wL tt a b d wd fa od hd qc qs bc bs tl rl H q w fr tr g re fi ro im r pk cz lh lp se md ff) H0 := by rw [er]; exact hP
      have hD9 : va_D A ((ao, zoc tt (zout zbL vo RR.1)) :: wL tt a b d wd fa od hd qc qs bc bs tl rl H q w fr tr g re fi ro im r pk cz lh lp se md ff) := by rw [er]; exact hD
      refine lv_goto (tgt := 32) hx hb dL_isFact_21 (by decide) ?_
      refine lv_iconst (v := (0 : Int32)) hx hb dL_isFact_32 (by decide) ?_
      exact W.iret (v := (0 : Int32)) hx hb hr (fun t ht hW => ⟨⟨(0 : Int32), RR.2, rfl, ⟨rfl, rfl⟩, by rw [ht]; exact hP9, va_K.moved hW.alike hK, hD9⟩, hS.F ht⟩) hS.2.2 dL_isFact_33
    · refine lv_if_eq (tgt := 19) hx hb dL_isFact_12 (by decide) (fun h9 => absurd h9 (by decide)) (fun _ => ?_)
      refine lv_lconst (v := (1 : Int64)) hx hb dL_isFact_15 (by decide) ?_
      refine lv_goto (tgt := 20) hx hb dL_isFact_16 (by decide) ?_
      refine va_last hx hb hK hP hD hS 0 1 rfl rfl (inB_vp (by decide)) dL_isFact_20 (fun H0 locs hP hD hS => ?_)
      have hP9 : va_P G vwCl ((ao, zoc tt (zout zbL vo RR.1)) :: wL tt a b d wd fa od hd qc qs bc bs tl rl H q w fr tr g re fi ro im r pk cz lh lp se md ff) H0 := by rw [er]; exact hP
      have hD9 : va_D A ((ao, zoc tt (zout zbL vo RR.1)) :: wL tt a b d wd fa od hd qc qs bc bs tl rl H q w fr tr g re fi ro im r pk cz lh lp se md ff) := by rw [er]; exact hD
      refine lv_goto (tgt := 32) hx hb dL_isFact_21 (by decide) ?_
      refine lv_iconst (v := (0 : Int32)) hx hb dL_isFact_32 (by decide) ?_
      exact W.iret (v := (0 : Int32)) hx hb hr (fun t ht hW => ⟨⟨(0 : Int32), RR.2, rfl, ⟨rfl, rfl⟩, by rw [ht]; exact hP9, va_K.moved hW.alike hK, hD9⟩, hS.F ht⟩) hS.2.2 dL_isFact_33

set_option maxHeartbeats 4000000 in
set_option maxRecDepth 100000 in
theorem mL_reasons (l : Launch) (G : va_G) (tt : Nat → ClassId) (sa : Nat → Nat) (hlt : l.stackTraces = false) (sz : Nat) (K : Nat) (a : Nat → Nat) (b : Nat → Nat → Nat) (d : Nat → Nat → Nat → Nat) (wd : Nat → Int32) (fa : Nat → Int64) (od hd : Nat → Int32) (qc : Nat → Nat → Int32) (qs : Nat → Int32) (bc : Nat → Nat → Int32) (bs : Nat → Int32) (tl rl : Int32) (H : zH12) (q : zR13) (w fr : Nat → Int64) (tr g re fi : Nat → Int32) (ro im : Int32) (r : zR15) (pk : Int32) (cz : Nat → Int32) (lh : Int32) (lp : Int64) (se : Nat → Int32) (md : Nat → Int64) (ff : Int32) (p1 : Int32) (p2 : Int32) (p3 : Int32) (p4 : Int32) (ao : Nat) (vo : Nat → Int64) (RR : (Nat ⊕ Int32) × (Nat → Int32) × Int32 × (Nat → Int32) × (Nat → Int32) × (Nat → Int32) × (Nat → Int32) × (Nat → Int32) × (Nat → Int32) × Int32 × Int32 × Int32 × Int32 × Int32 × (Nat → Int64) × (Nat → Int64) × (Nat → Int32) × (Nat → Int32) × (Nat → Int32) × Int32 × Int32) (hF : fX11_reasons K wd fa hd bc bs tl rl p1 p2 p3 p4 q.1 q.2.1 q.2.2.1 q.2.2.2.1 q.2.2.2.2.1 q.2.2.2.2.2.1 q.2.2.2.2.2.2.1 q.2.2.2.2.2.2.2.1 q.2.2.2.2.2.2.2.2.1 q.2.2.2.2.2.2.2.2.2.1 q.2.2.2.2.2.2.2.2.2.2.1 q.2.2.2.2.2.2.2.2.2.2.2.1 q.2.2.2.2.2.2.2.2.2.2.2.2 w fr g re fi ro im = some RR) (bb : Int32 × Int32) (hA : zAg [0, 1] 0 RR.1 bb) : Met l yL_reasons wsL_reasons ({ frames := 8, cells := 2, slots := 12, locals := 188 } : Room) (zPreL G (zTy tt) sa [.ref (a 0), .int p1, .int p2, .int p3, .int p4, .ref ao] sz ((ao, zoc tt vo) :: wL tt a b d wd fa od hd qc qs bc bs tl rl H q w fr tr g re fi ro im r pk cz lh lp se md ff)) (va_Qi (fun (r : Int32) (u : (Nat → Int32) × Int32 × (Nat → Int32) × (Nat → Int32) × (Nat → Int32) × (Nat → Int32) × (Nat → Int32) × (Nat → Int32) × Int32 × Int32 × Int32 × Int32 × Int32 × (Nat → Int64) × (Nat → Int64) × (Nat → Int32) × (Nat → Int32) × (Nat → Int32) × Int32 × Int32) => r = bb.2 ∧ u = RR.2) (zAt G (zTy tt) (va_A ((ao, zoc tt vo) :: wL tt a b d wd fa od hd qc qs bc bs tl rl H q w fr tr g re fi ro im r pk cz lh lp se md ff) sz) (fun u : (Nat → Int32) × Int32 × (Nat → Int32) × (Nat → Int32) × (Nat → Int32) × (Nat → Int32) × (Nat → Int32) × (Nat → Int32) × Int32 × Int32 × Int32 × Int32 × Int32 × (Nat → Int64) × (Nat → Int64) × (Nat → Int32) × (Nat → Int32) × (Nat → Int32) × Int32 × Int32 => (ao, zoc tt (zout Int32.toInt64 vo RR.1)) :: wL tt a b d wd fa od hd qc qs bc bs tl rl H (u.1, u.2.1, u.2.2.1, u.2.2.2.1, u.2.2.2.2.1, u.2.2.2.2.2.1, u.2.2.2.2.2.2.1, u.2.2.2.2.2.2.2.1, u.2.2.2.2.2.2.2.2.1, u.2.2.2.2.2.2.2.2.2.1, u.2.2.2.2.2.2.2.2.2.2.1, u.2.2.2.2.2.2.2.2.2.2.2.1, u.2.2.2.2.2.2.2.2.2.2.2.2.1) u.2.2.2.2.2.2.2.2.2.2.2.2.2.1 u.2.2.2.2.2.2.2.2.2.2.2.2.2.2.1 tr u.2.2.2.2.2.2.2.2.2.2.2.2.2.2.2.1 u.2.2.2.2.2.2.2.2.2.2.2.2.2.2.2.2.1 u.2.2.2.2.2.2.2.2.2.2.2.2.2.2.2.2.2.1 u.2.2.2.2.2.2.2.2.2.2.2.2.2.2.2.2.2.2.1 u.2.2.2.2.2.2.2.2.2.2.2.2.2.2.2.2.2.2.2 r pk cz lh lp se md ff)) (va_A ((ao, zoc tt vo) :: wL tt a b d wd fa od hd qc qs bc bs tl rl H q w fr tr g re fi ro im r pk cz lh lp se md ff) sz)) 2 12 (va_A ((ao, zoc tt vo) :: wL tt a b d wd fa od hd qc qs bc bs tl rl H q w fr tr g re fi ro im r pk cz lh lp se md ff) sz) := by
  refine va_MetW (cc := cL_reasons) (maxL := 7) (ret := (some .int)) (hh := [(0, 14, 17, 21), (0, 14, 21, 13)]) (by decide +kernel) rfl ?_
  intro p e s m args below meth c s₁ B hml hv
  obtain ⟨⟨rfl, hsz, hP, hK, hD0, hN, hX⟩, hL⟩ := hv
  have hx := B.exec
  have hb := B.bytes
  have hr := B.returns
  have hts := atoms_spec (ws := wsL_reasons) B.pre
  have hown : s.vm.findClass RL = some m.cls := findClass_of_methodNamed B.named
  have hlocks := B.notSynchronized
  have htab : c.exceptionTable.toList = tableOf [(0, 14, 17, 21), (0, 14, 21, 13)] := vx_table (x := yL_reasons) B (hts _ List.mem_cons_self)
  subst hsz
  have hD := hD0.self (sz := s.heap.size)
  generalize hAe : va_A ((ao, zoc tt vo) :: wL tt a b d wd fa od hd qc qs bc bs tl rl H q w fr tr g re fi ro im r pk cz lh lp se md ff) s.heap.size = A at hD hX ⊢
  have hA9 : ∀ q : Nat, s.heap.size ≤ q → A q := fun q h => by rw [← hAe]; exact Or.inr h
  have hl := lv_entry ([.ref (a 0), .int p1, .int p2, .int p3, .int p4, .ref ao]) (n := 7) (Nat.le_of_ble_eq_true rfl)
  rw [lg_entry_eq]
  generalize (lg_sl ([.ref (a 0), .int p1, .int p2, .int p3, .int p4, .ref ao]) ++ List.replicate (7 - (lg_sl ([.ref (a 0), .int p1, .int p2, .int p3, .int p4, .ref ao])).length) Slot.unset).toArray = ls at hl ⊢
  have hl : lv_has ls 7 [(0, .ref (a 0)), (1, .int p1), (2, .int p2), (3, .int p3), (4, .int p4), (5, .ref ao)] := hl
  obtain ⟨H0, hHe⟩ : ∃ H : Heap, s.heap = H := ⟨_, rfl⟩
  have hS : va_S A s.heap H0 [] := by rw [← hHe]; exact va_S.rf
  rw [hHe] at hP ⊢
  have hP := zP_perm (List.perm_append_comm (l₁ := [(ao, zoc tt vo)]) (l₂ := wL tt a b d wd fa od hd qc qs bc bs tl rl H q w fr tr g re fi ro im r pk cz lh lp se md ff)) hP
  have hD := zD_perm (List.perm_append_comm (l₁ := [(ao, zoc tt vo)]) (l₂ := wL tt a b d wd fa od hd qc qs bc bs tl rl H q w fr tr g re fi ro im r pk cz lh lp se md ff)) hD
  refine lv_aload hx hb dL_reasons_0 (lv_at hl 5 rfl) ?_
  refine lv_iconst (v := (0 : Int32)) hx hb dL_reasons_2 (by decide) ?_
  refine lv_aload_n hx hb dL_reasons_3 rfl (lv_at hl 0 rfl) ?_
  refine lv_iload_n hx hb dL_reasons_4 rfl (lv_at hl 1 rfl) ?_
  refine lv_iload_n hx hb dL_reasons_5 rfl (lv_at hl 2 rfl) ?_
  refine lv_iload_n hx hb dL_reasons_6 rfl (lv_at hl 3 rfl) ?_
  refine lv_iload hx hb dL_reasons_7 (lv_at hl 4 rfl) ?_
  refine z_callXi (wc := wL tt a b d wd fa od hd qc qs bc bs tl rl H q w fr tr g re fi ro im r pk cz lh lp se md ff) (wr := [(ao, zoc tt vo)]) (As := [.int p1, .int p2, .int p3, .int p4]) (rest := [.int (0 : Int32), .ref ao]) (ci := 10) ⟨hx, hb, hml, hown, hts⟩ hK hN hX hP hD hS hA9 (nX11_reasons l G tt sa hlt H0.size K a b d wd fa od hd qc qs bc bs tl rl H q w fr tr g re fi ro im r pk cz lh lp se md ff p1 p2 p3 p4 RR hF) (cwV 4 hts gL_reasons_X11_reasons rfl rfl rfl (by decide +kernel) ⟨Nat.le_of_ble_eq_true rfl, Nat.le_of_ble_eq_true rfl⟩) rfl rfl rfl hl.1 rfl (Nat.le_of_ble_eq_true rfl) dL_reasons_9 ⟨Nat.le_of_ble_eq_true rfl, Nat.le_of_ble_eq_true rfl⟩ (fun k ce q9 H0 locs hk hP hD hS hce hcv hcl => ?_) (fun rr u H0 locs hw hP hD hS => ?_)
  · rcases hA with ⟨k9, hk9, ek, rfl⟩ | ⟨v9, ev, rfl⟩
    · obtain rfl : k9 = k := Sum.inl.inj (ek.symm.trans hk)
      have hk9 : k9 = 0 ∨ k9 = 1 := by simpa using hk9
      rcases hk9 with rfl | rfl
      · have hz : zout Int32.toInt64 vo RR.1 = vo := by rw [hk]; rfl
        refine vx_catch (name := zEx 0) hown [] ⟨0, 14, 17, 21⟩ [⟨0, 14, 21, 13⟩] (htab.trans rfl) (fun z hz => by
            exact absurd hz List.not_mem_nil) (by decide) (by decide) (hts (.classLink RL 21 (zEx 0)) (List.mem_of_getElem? (i := 1) rfl)) (zX_cast hX 0 (by decide)) hce hcv hcl ?_
        refine lv_astore (lv' := [(6, .ref q9), (0, .ref (a 0)), (1, .int p1), (2, .int p2), (3, .int p3), (4, .int p4), (5, .ref ao)]) hx hb dL_reasons_17 hl (by decide) rfl (fun ls hl => ?_)
        refine lv_iconst (v := (1 : Int32)) hx hb dL_reasons_19 (by decide) ?_
        exact W.iret (v := (1 : Int32)) hx hb hr (fun t ht hW => ⟨⟨(1 : Int32), RR.2, rfl, ⟨rfl, rfl⟩, by rw [ht, hz]; exact hP, va_K.moved hW.alike hK, by rw [hz]; exact hD⟩, hS.F ht⟩) hS.2.2 dL_reasons_20
      · have hz : zout Int32.toInt64 vo RR.1 = vo := by rw [hk]; rfl
        refine vx_catch (name := zEx 1) hown [⟨0, 14, 17, 21⟩] ⟨0, 14, 21, 13⟩ [] (htab.trans rfl) (fun z hz => by
            rcases List.mem_cons.mp hz with rfl | hz
            · exact Or.inr ⟨by decide, zEx 0, (hts (.classLink RL 21 (zEx 0)) (List.mem_of_getElem? (i := 1) rfl)), hL 1 0 (by decide) (by decide) (by decide)⟩
            exact absurd hz List.not_mem_nil) (by decide) (by decide) (hts (.classLink RL 13 (zEx 1)) (List.mem_of_getElem? (i := 2) rfl)) (zX_cast hX 1 (by decide)) hce hcv hcl ?_
        refine lv_astore (lv' := [(6, .ref q9), (0, .ref (a 0)), (1, .int p1), (2, .int p2), (3, .int p3), (4, .int p4), (5, .ref ao)]) hx hb dL_reasons_21 hl (by decide) rfl (fun ls hl => ?_)
        refine lv_iconst (v := (2 : Int32)) hx hb dL_reasons_23 (by decide) ?_
        exact W.iret (v := (2 : Int32)) hx hb hr (fun t ht hW => ⟨⟨(2 : Int32), RR.2, rfl, ⟨rfl, rfl⟩, by rw [ht, hz]; exact hP, va_K.moved hW.alike hK, by rw [hz]; exact hD⟩, hS.F ht⟩) hS.2.2 dL_reasons_24
    · cases hk.symm.trans ev
  · obtain ⟨er, hu⟩ := hw
    subst hu
    rcases hA with ⟨k9, hk9, ek, rfl⟩ | ⟨v9, ev, rfl⟩
    · cases er.symm.trans ek
    obtain rfl : v9 = rr := Sum.inr.inj (ev.symm.trans er)
    refine lv_i2l hx hb dL_reasons_12 rfl ?_
    refine va_last hx hb hK hP hD hS 0 1 rfl rfl (inB_vp (by decide)) dL_reasons_13 (fun H0 locs hP hD hS => ?_)
    have hP9 : va_P G vwCl ((ao, zoc tt (zout Int32.toInt64 vo RR.1)) :: wL tt a b d wd fa od hd qc qs bc bs tl rl H (RR.2.1, RR.2.2.1, RR.2.2.2.1, RR.2.2.2.2.1, RR.2.2.2.2.2.1, RR.2.2.2.2.2.2.1, RR.2.2.2.2.2.2.2.1, RR.2.2.2.2.2.2.2.2.1, RR.2.2.2.2.2.2.2.2.2.1, RR.2.2.2.2.2.2.2.2.2.2.1, RR.2.2.2.2.2.2.2.2.2.2.2.1, RR.2.2.2.2.2.2.2.2.2.2.2.2.1, RR.2.2.2.2.2.2.2.2.2.2.2.2.2.1) RR.2.2.2.2.2.2.2.2.2.2.2.2.2.2.1 RR.2.2.2.2.2.2.2.2.2.2.2.2.2.2.2.1 tr RR.2.2.2.2.2.2.2.2.2.2.2.2.2.2.2.2.1 RR.2.2.2.2.2.2.2.2.2.2.2.2.2.2.2.2.2.1 RR.2.2.2.2.2.2.2.2.2.2.2.2.2.2.2.2.2.2.1 RR.2.2.2.2.2.2.2.2.2.2.2.2.2.2.2.2.2.2.2.1 RR.2.2.2.2.2.2.2.2.2.2.2.2.2.2.2.2.2.2.2.2 r pk cz lh lp se md ff) H0 := by rw [er]; exact hP
    have hD9 : va_D A ((ao, zoc tt (zout Int32.toInt64 vo RR.1)) :: wL tt a b d wd fa od hd qc qs bc bs tl rl H (RR.2.1, RR.2.2.1, RR.2.2.2.1, RR.2.2.2.2.1, RR.2.2.2.2.2.1, RR.2.2.2.2.2.2.1, RR.2.2.2.2.2.2.2.1, RR.2.2.2.2.2.2.2.2.1, RR.2.2.2.2.2.2.2.2.2.1, RR.2.2.2.2.2.2.2.2.2.2.1, RR.2.2.2.2.2.2.2.2.2.2.2.1, RR.2.2.2.2.2.2.2.2.2.2.2.2.1, RR.2.2.2.2.2.2.2.2.2.2.2.2.2.1) RR.2.2.2.2.2.2.2.2.2.2.2.2.2.2.1 RR.2.2.2.2.2.2.2.2.2.2.2.2.2.2.2.1 tr RR.2.2.2.2.2.2.2.2.2.2.2.2.2.2.2.2.1 RR.2.2.2.2.2.2.2.2.2.2.2.2.2.2.2.2.2.1 RR.2.2.2.2.2.2.2.2.2.2.2.2.2.2.2.2.2.2.1 RR.2.2.2.2.2.2.2.2.2.2.2.2.2.2.2.2.2.2.2.1 RR.2.2.2.2.2.2.2.2.2.2.2.2.2.2.2.2.2.2.2.2 r pk cz lh lp se md ff) := by rw [er]; exact hD
    refine lv_goto (tgt := 25) hx hb dL_reasons_14 (by decide) ?_
    refine lv_iconst (v := (0 : Int32)) hx hb dL_reasons_25 (by decide) ?_
    exact W.iret (v := (0 : Int32)) hx hb hr (fun t ht hW => ⟨⟨(0 : Int32), RR.2, rfl, ⟨rfl, rfl⟩, by rw [ht]; exact hP9, va_K.moved hW.alike hK, hD9⟩, hS.F ht⟩) hS.2.2 dL_reasons_26

set_option maxHeartbeats 4000000 in
set_option maxRecDepth 100000 in
theorem mL_rowAt (l : Launch) (G : va_G) (tt : Nat → ClassId) (sa : Nat → Nat) (hlt : l.stackTraces = false) (sz : Nat) (K : Nat) (a : Nat → Nat) (b : Nat → Nat → Nat) (d : Nat → Nat → Nat → Nat) (wd : Nat → Int32) (fa : Nat → Int64) (od hd : Nat → Int32) (qc : Nat → Nat → Int32) (qs : Nat → Int32) (bc : Nat → Nat → Int32) (bs : Nat → Int32) (tl rl : Int32) (H : zH12) (q : zR13) (w fr : Nat → Int64) (tr g re fi : Nat → Int32) (ro im : Int32) (r : zR15) (pk : Int32) (cz : Nat → Int32) (lh : Int32) (lp : Int64) (se : Nat → Int32) (md : Nat → Int64) (ff : Int32) (p1 : Int32) (p2 : Int32) (p3 : Int32) (ao : Nat) (vo : Nat → Int64) (RR : (Nat ⊕ Int32) × (Nat → Int32) × Int32 × (Nat → Int32) × (Nat → Int32) × (Nat → Int32) × (Nat → Int32) × (Nat → Int32) × (Nat → Int32) × Int32 × Int32 × Int32 × Int32 × Int32 × (Nat → Int64) × (Nat → Int64) × (Nat → Int32) × (Nat → Int32) × (Nat → Int32) × Int32 × Int32) (hF : fX11_rowAt K wd fa hd bc bs tl rl p1 p2 p3 q.1 q.2.1 q.2.2.1 q.2.2.2.1 q.2.2.2.2.1 q.2.2.2.2.2.1 q.2.2.2.2.2.2.1 q.2.2.2.2.2.2.2.1 q.2.2.2.2.2.2.2.2.1 q.2.2.2.2.2.2.2.2.2.1 q.2.2.2.2.2.2.2.2.2.2.1 q.2.2.2.2.2.2.2.2.2.2.2.1 q.2.2.2.2.2.2.2.2.2.2.2.2 w fr g re fi ro im = some RR) (bb : Int32 × Int32) (hA : zAg [0] 0 RR.1 bb) : Met l yL_rowAt wsL_rowAt ({ frames := 8, cells := 3, slots := 18, locals := 187 } : Room) (zPreL G (zTy tt) sa [.ref (a 0), .int p1, .int p2, .int p3, .ref ao] sz ((ao, zoc tt vo) :: wL tt a b d wd fa od hd qc qs bc bs tl rl H q w fr tr g re fi ro im r pk cz lh lp se md ff)) (va_Qi (fun (r : Int32) (u : (Nat → Int32) × Int32 × (Nat → Int32) × (Nat → Int32) × (Nat → Int32) × (Nat → Int32) × (Nat → Int32) × (Nat → Int32) × Int32 × Int32 × Int32 × Int32 × Int32 × (Nat → Int64) × (Nat → Int64) × (Nat → Int32) × (Nat → Int32) × (Nat → Int32) × Int32 × Int32) => r = bb.2 ∧ u = RR.2) (zAt G (zTy tt) (va_A ((ao, zoc tt vo) :: wL tt a b d wd fa od hd qc qs bc bs tl rl H q w fr tr g re fi ro im r pk cz lh lp se md ff) sz) (fun u : (Nat → Int32) × Int32 × (Nat → Int32) × (Nat → Int32) × (Nat → Int32) × (Nat → Int32) × (Nat → Int32) × (Nat → Int32) × Int32 × Int32 × Int32 × Int32 × Int32 × (Nat → Int64) × (Nat → Int64) × (Nat → Int32) × (Nat → Int32) × (Nat → Int32) × Int32 × Int32 => (ao, zoc tt (zout Int32.toInt64 vo RR.1)) :: wL tt a b d wd fa od hd qc qs bc bs tl rl H (u.1, u.2.1, u.2.2.1, u.2.2.2.1, u.2.2.2.2.1, u.2.2.2.2.2.1, u.2.2.2.2.2.2.1, u.2.2.2.2.2.2.2.1, u.2.2.2.2.2.2.2.2.1, u.2.2.2.2.2.2.2.2.2.1, u.2.2.2.2.2.2.2.2.2.2.1, u.2.2.2.2.2.2.2.2.2.2.2.1, u.2.2.2.2.2.2.2.2.2.2.2.2.1) u.2.2.2.2.2.2.2.2.2.2.2.2.2.1 u.2.2.2.2.2.2.2.2.2.2.2.2.2.2.1 tr u.2.2.2.2.2.2.2.2.2.2.2.2.2.2.2.1 u.2.2.2.2.2.2.2.2.2.2.2.2.2.2.2.2.1 u.2.2.2.2.2.2.2.2.2.2.2.2.2.2.2.2.2.1 u.2.2.2.2.2.2.2.2.2.2.2.2.2.2.2.2.2.2.1 u.2.2.2.2.2.2.2.2.2.2.2.2.2.2.2.2.2.2.2 r pk cz lh lp se md ff)) (va_A ((ao, zoc tt vo) :: wL tt a b d wd fa od hd qc qs bc bs tl rl H q w fr tr g re fi ro im r pk cz lh lp se md ff) sz)) 3 18 (va_A ((ao, zoc tt vo) :: wL tt a b d wd fa od hd qc qs bc bs tl rl H q w fr tr g re fi ro im r pk cz lh lp se md ff) sz) := by
  refine va_MetW (cc := cL_rowAt) (maxL := 6) (ret := (some .int)) (hh := [(0, 12, 15, 21)]) (by decide +kernel) rfl ?_
  intro p e s m args below meth c s₁ B hml hv
  obtain ⟨⟨rfl, hsz, hP, hK, hD0, hN, hX⟩, hL⟩ := hv
  have hx := B.exec
  have hb := B.bytes
  have hr := B.returns
  have hts := atoms_spec (ws := wsL_rowAt) B.pre
  have hown : s.vm.findClass RL = some m.cls := findClass_of_methodNamed B.named
  have hlocks := B.notSynchronized
  have htab : c.exceptionTable.toList = tableOf [(0, 12, 15, 21)] := vx_table (x := yL_rowAt) B (hts _ List.mem_cons_self)
  subst hsz
  have hD := hD0.self (sz := s.heap.size)
  generalize hAe : va_A ((ao, zoc tt vo) :: wL tt a b d wd fa od hd qc qs bc bs tl rl H q w fr tr g re fi ro im r pk cz lh lp se md ff) s.heap.size = A at hD hX ⊢
  have hA9 : ∀ q : Nat, s.heap.size ≤ q → A q := fun q h => by rw [← hAe]; exact Or.inr h
  have hl := lv_entry ([.ref (a 0), .int p1, .int p2, .int p3, .ref ao]) (n := 6) (Nat.le_of_ble_eq_true rfl)
  rw [lg_entry_eq]
  generalize (lg_sl ([.ref (a 0), .int p1, .int p2, .int p3, .ref ao]) ++ List.replicate (6 - (lg_sl ([.ref (a 0), .int p1, .int p2, .int p3, .ref ao])).length) Slot.unset).toArray = ls at hl ⊢
  have hl : lv_has ls 6 [(0, .ref (a 0)), (1, .int p1), (2, .int p2), (3, .int p3), (4, .ref ao)] := hl
  obtain ⟨H0, hHe⟩ : ∃ H : Heap, s.heap = H := ⟨_, rfl⟩
  have hS : va_S A s.heap H0 [] := by rw [← hHe]; exact va_S.rf
  rw [hHe] at hP ⊢
  have hP := zP_perm (List.perm_append_comm (l₁ := [(ao, zoc tt vo)]) (l₂ := wL tt a b d wd fa od hd qc qs bc bs tl rl H q w fr tr g re fi ro im r pk cz lh lp se md ff)) hP
  have hD := zD_perm (List.perm_append_comm (l₁ := [(ao, zoc tt vo)]) (l₂ := wL tt a b d wd fa od hd qc qs bc bs tl rl H q w fr tr g re fi ro im r pk cz lh lp se md ff)) hD
  refine lv_aload hx hb dL_rowAt_0 (lv_at hl 4 rfl) ?_
  refine lv_iconst (v := (0 : Int32)) hx hb dL_rowAt_2 (by decide) ?_
  refine lv_aload_n hx hb dL_rowAt_3 rfl (lv_at hl 0 rfl) ?_
  refine lv_iload_n hx hb dL_rowAt_4 rfl (lv_at hl 1 rfl) ?_
  refine lv_iload_n hx hb dL_rowAt_5 rfl (lv_at hl 2 rfl) ?_
  refine lv_iload_n hx hb dL_rowAt_6 rfl (lv_at hl 3 rfl) ?_
  refine z_callXi (wc := wL tt a b d wd fa od hd qc qs bc bs tl rl H q w fr tr g re fi ro im r pk cz lh lp se md ff) (wr := [(ao, zoc tt vo)]) (As := [.int p1, .int p2, .int p3]) (rest := [.int (0 : Int32), .ref ao]) (ci := 10) ⟨hx, hb, hml, hown, hts⟩ hK hN hX hP hD hS hA9 (nX11_rowAt l G tt sa hlt H0.size K a b d wd fa od hd qc qs bc bs tl rl H q w fr tr g re fi ro im r pk cz lh lp se md ff p1 p2 p3 RR hF) (cwV 3 hts gL_rowAt_X11_rowAt rfl rfl rfl (by decide +kernel) ⟨Nat.le_of_ble_eq_true rfl, Nat.le_of_ble_eq_true rfl⟩) rfl rfl rfl hl.1 rfl (Nat.le_of_ble_eq_true rfl) dL_rowAt_7 ⟨Nat.le_of_ble_eq_true rfl, Nat.le_of_ble_eq_true rfl⟩ (fun k ce q9 H0 locs hk hP hD hS hce hcv hcl => ?_) (fun rr u H0 locs hw hP hD hS => ?_)
  · rcases hA with ⟨k9, hk9, ek, rfl⟩ | ⟨v9, ev, rfl⟩
    · obtain rfl : k9 = k := Sum.inl.inj (ek.symm.trans hk)
      have hk9 : k9 = 0 := by simpa using hk9
      subst hk9
      have hz : zout Int32.toInt64 vo RR.1 = vo := by rw [hk]; rfl
      refine vx_catch (name := zEx 0) hown [] ⟨0, 12, 15, 21⟩ [] (htab.trans rfl) (fun z hz => by
          exact absurd hz List.not_mem_nil) (by decide) (by decide) (hts (.classLink RL 21 (zEx 0)) (List.mem_of_getElem? (i := 1) rfl)) (zX_cast hX 0 (by decide)) hce hcv hcl ?_
      refine lv_astore (lv' := [(5, .ref q9), (0, .ref (a 0)), (1, .int p1), (2, .int p2), (3, .int p3), (4, .ref ao)]) hx hb dL_rowAt_15 hl (by decide) rfl (fun ls hl => ?_)
      refine lv_iconst (v := (1 : Int32)) hx hb dL_rowAt_17 (by decide) ?_
      exact W.iret (v := (1 : Int32)) hx hb hr (fun t ht hW => ⟨⟨(1 : Int32), RR.2, rfl, ⟨rfl, rfl⟩, by rw [ht, hz]; exact hP, va_K.moved hW.alike hK, by rw [hz]; exact hD⟩, hS.F ht⟩) hS.2.2 dL_rowAt_18
    · cases hk.symm.trans ev
  · obtain ⟨er, hu⟩ := hw
    subst hu
    rcases hA with ⟨k9, hk9, ek, rfl⟩ | ⟨v9, ev, rfl⟩
    · cases er.symm.trans ek
    obtain rfl : v9 = rr := Sum.inr.inj (ev.symm.trans er)
    refine lv_i2l hx hb dL_rowAt_10 rfl ?_
    refine va_last hx hb hK hP hD hS 0 1 rfl rfl (inB_vp (by decide)) dL_rowAt_11 (fun H0 locs hP hD hS => ?_)
    have hP9 : va_P G vwCl ((ao, zoc tt (zout Int32.toInt64 vo RR.1)) :: wL tt a b d wd fa od hd qc qs bc bs tl rl H (RR.2.1, RR.2.2.1, RR.2.2.2.1, RR.2.2.2.2.1, RR.2.2.2.2.2.1, RR.2.2.2.2.2.2.1, RR.2.2.2.2.2.2.2.1, RR.2.2.2.2.2.2.2.2.1, RR.2.2.2.2.2.2.2.2.2.1, RR.2.2.2.2.2.2.2.2.2.2.1, RR.2.2.2.2.2.2.2.2.2.2.2.1, RR.2.2.2.2.2.2.2.2.2.2.2.2.1, RR.2.2.2.2.2.2.2.2.2.2.2.2.2.1) RR.2.2.2.2.2.2.2.2.2.2.2.2.2.2.1 RR.2.2.2.2.2.2.2.2.2.2.2.2.2.2.2.1 tr RR.2.2.2.2.2.2.2.2.2.2.2.2.2.2.2.2.1 RR.2.2.2.2.2.2.2.2.2.2.2.2.2.2.2.2.2.1 RR.2.2.2.2.2.2.2.2.2.2.2.2.2.2.2.2.2.2.1 RR.2.2.2.2.2.2.2.2.2.2.2.2.2.2.2.2.2.2.2.1 RR.2.2.2.2.2.2.2.2.2.2.2.2.2.2.2.2.2.2.2.2 r pk cz lh lp se md ff) H0 := by rw [er]; exact hP
    have hD9 : va_D A ((ao, zoc tt (zout Int32.toInt64 vo RR.1)) :: wL tt a b d wd fa od hd qc qs bc bs tl rl H (RR.2.1, RR.2.2.1, RR.2.2.2.1, RR.2.2.2.2.1, RR.2.2.2.2.2.1, RR.2.2.2.2.2.2.1, RR.2.2.2.2.2.2.2.1, RR.2.2.2.2.2.2.2.2.1, RR.2.2.2.2.2.2.2.2.2.1, RR.2.2.2.2.2.2.2.2.2.2.1, RR.2.2.2.2.2.2.2.2.2.2.2.1, RR.2.2.2.2.2.2.2.2.2.2.2.2.1, RR.2.2.2.2.2.2.2.2.2.2.2.2.2.1) RR.2.2.2.2.2.2.2.2.2.2.2.2.2.2.1 RR.2.2.2.2.2.2.2.2.2.2.2.2.2.2.2.1 tr RR.2.2.2.2.2.2.2.2.2.2.2.2.2.2.2.2.1 RR.2.2.2.2.2.2.2.2.2.2.2.2.2.2.2.2.2.1 RR.2.2.2.2.2.2.2.2.2.2.2.2.2.2.2.2.2.2.1 RR.2.2.2.2.2.2.2.2.2.2.2.2.2.2.2.2.2.2.2.1 RR.2.2.2.2.2.2.2.2.2.2.2.2.2.2.2.2.2.2.2.2 r pk cz lh lp se md ff) := by rw [er]; exact hD
    refine lv_goto (tgt := 19) hx hb dL_rowAt_12 (by decide) ?_
    refine lv_iconst (v := (0 : Int32)) hx hb dL_rowAt_19 (by decide) ?_
    exact W.iret (v := (0 : Int32)) hx hb hr (fun t ht hW => ⟨⟨(0 : Int32), RR.2, rfl, ⟨rfl, rfl⟩, by rw [ht]; exact hP9, va_K.moved hW.alike hK, hD9⟩, hS.F ht⟩) hS.2.2 dL_rowAt_20

set_option maxHeartbeats 4000000 in
set_option maxRecDepth 100000 in
theorem mL_firstFrom (l : Launch) (G : va_G) (tt : Nat → ClassId) (sa : Nat → Nat) (hlt : l.stackTraces = false) (sz : Nat) (K : Nat) (a : Nat → Nat) (b : Nat → Nat → Nat) (d : Nat → Nat → Nat → Nat) (wd : Nat → Int32) (fa : Nat → Int64) (od hd : Nat → Int32) (qc : Nat → Nat → Int32) (qs : Nat → Int32) (bc : Nat → Nat → Int32) (bs : Nat → Int32) (tl rl : Int32) (H : zH12) (q : zR13) (w fr : Nat → Int64) (tr g re fi : Nat → Int32) (ro im : Int32) (r : zR15) (pk : Int32) (cz : Nat → Int32) (lh : Int32) (lp : Int64) (se : Nat → Int32) (md : Nat → Int64) (ff : Int32) (p1 : Int32) (p2 : Int32) (p3 : Int32) (p4 : Int32) (ao : Nat) (vo : Nat → Int64) (RR : (Nat ⊕ Int32) × (Nat → Int32) × Int32 × (Nat → Int32) × (Nat → Int32) × (Nat → Int32) × (Nat → Int32) × (Nat → Int32) × (Nat → Int32) × Int32 × Int32 × Int32 × Int32 × Int32 × (Nat → Int64) × (Nat → Int64) × (Nat → Int32) × (Nat → Int32) × (Nat → Int32) × Int32 × Int32) (hF : fX11_firstFrom K wd fa hd bc bs tl rl p1 p2 p3 p4 q.1 q.2.1 q.2.2.1 q.2.2.2.1 q.2.2.2.2.1 q.2.2.2.2.2.1 q.2.2.2.2.2.2.1 q.2.2.2.2.2.2.2.1 q.2.2.2.2.2.2.2.2.1 q.2.2.2.2.2.2.2.2.2.1 q.2.2.2.2.2.2.2.2.2.2.1 q.2.2.2.2.2.2.2.2.2.2.2.1 q.2.2.2.2.2.2.2.2.2.2.2.2 w fr g re fi ro im = some RR) (bb : Int32 × Int32) (hA : zAg [0, 1, 3] 0 RR.1 bb) : Met l yL_firstFrom wsL_firstFrom ({ frames := 8, cells := 3, slots := 18, locals := 189 } : Room) (zPreL G (zTy tt) sa [.ref (a 0), .int p1, .int p2, .int p3, .int p4, .ref ao] sz ((ao, zoc tt vo) :: wL tt a b d wd fa od hd qc qs bc bs tl rl H q w fr tr g re fi ro im r pk cz lh lp se md ff)) (va_Qi (fun (r : Int32) (u : (Nat → Int32) × Int32 × (Nat → Int32) × (Nat → Int32) × (Nat → Int32) × (Nat → Int32) × (Nat → Int32) × (Nat → Int32) × Int32 × Int32 × Int32 × Int32 × Int32 × (Nat → Int64) × (Nat → Int64) × (Nat → Int32) × (Nat → Int32) × (Nat → Int32) × Int32 × Int32) => r = bb.2 ∧ u = RR.2) (zAt G (zTy tt) (va_A ((ao, zoc tt vo) :: wL tt a b d wd fa od hd qc qs bc bs tl rl H q w fr tr g re fi ro im r pk cz lh lp se md ff) sz) (fun u : (Nat → Int32) × Int32 × (Nat → Int32) × (Nat → Int32) × (Nat → Int32) × (Nat → Int32) × (Nat → Int32) × (Nat → Int32) × Int32 × Int32 × Int32 × Int32 × Int32 × (Nat → Int64) × (Nat → Int64) × (Nat → Int32) × (Nat → Int32) × (Nat → Int32) × Int32 × Int32 => (ao, zoc tt (zout Int32.toInt64 vo RR.1)) :: wL tt a b d wd fa od hd qc qs bc bs tl rl H (u.1, u.2.1, u.2.2.1, u.2.2.2.1, u.2.2.2.2.1, u.2.2.2.2.2.1, u.2.2.2.2.2.2.1, u.2.2.2.2.2.2.2.1, u.2.2.2.2.2.2.2.2.1, u.2.2.2.2.2.2.2.2.2.1, u.2.2.2.2.2.2.2.2.2.2.1, u.2.2.2.2.2.2.2.2.2.2.2.1, u.2.2.2.2.2.2.2.2.2.2.2.2.1) u.2.2.2.2.2.2.2.2.2.2.2.2.2.1 u.2.2.2.2.2.2.2.2.2.2.2.2.2.2.1 tr u.2.2.2.2.2.2.2.2.2.2.2.2.2.2.2.1 u.2.2.2.2.2.2.2.2.2.2.2.2.2.2.2.2.1 u.2.2.2.2.2.2.2.2.2.2.2.2.2.2.2.2.2.1 u.2.2.2.2.2.2.2.2.2.2.2.2.2.2.2.2.2.2.1 u.2.2.2.2.2.2.2.2.2.2.2.2.2.2.2.2.2.2.2 r pk cz lh lp se md ff)) (va_A ((ao, zoc tt vo) :: wL tt a b d wd fa od hd qc qs bc bs tl rl H q w fr tr g re fi ro im r pk cz lh lp se md ff) sz)) 3 18 (va_A ((ao, zoc tt vo) :: wL tt a b d wd fa od hd qc qs bc bs tl rl H q w fr tr g re fi ro im r pk cz lh lp se md ff) sz) := by
  refine va_MetW (cc := cL_firstFrom) (maxL := 7) (ret := (some .int)) (hh := [(0, 14, 17, 21), (0, 14, 21, 13), (0, 14, 25, 26)]) (by decide +kernel) rfl ?_
  intro p e s m args below meth c s₁ B hml hv
  obtain ⟨⟨rfl, hsz, hP, hK, hD0, hN, hX⟩, hL⟩ := hv
  have hx := B.exec
  have hb := B.bytes
  have hr := B.returns
  have hts := atoms_spec (ws := wsL_firstFrom) B.pre
  have hown : s.vm.findClass RL = some m.cls := findClass_of_methodNamed B.named
  have hlocks := B.notSynchronized
  have htab : c.exceptionTable.toList = tableOf [(0, 14, 17, 21), (0, 14, 21, 13), (0, 14, 25, 26)] := vx_table (x := yL_firstFrom) B (hts _ List.mem_cons_self)
  subst hsz
  have hD := hD0.self (sz := s.heap.size)
  generalize hAe : va_A ((ao, zoc tt vo) :: wL tt a b d wd fa od hd qc qs bc bs tl rl H q w fr tr g re fi ro im r pk cz lh lp se md ff) s.heap.size = A at hD hX ⊢
  have hA9 : ∀ q : Nat, s.heap.size ≤ q → A q := fun q h => by rw [← hAe]; exact Or.inr h
  have hl := lv_entry ([.ref (a 0), .int p1, .int p2, .int p3, .int p4, .ref ao]) (n := 7) (Nat.le_of_ble_eq_true rfl)
  rw [lg_entry_eq]
  generalize (lg_sl ([.ref (a 0), .int p1, .int p2, .int p3, .int p4, .ref ao]) ++ List.replicate (7 - (lg_sl ([.ref (a 0), .int p1, .int p2, .int p3, .int p4, .ref ao])).length) Slot.unset).toArray = ls at hl ⊢
  have hl : lv_has ls 7 [(0, .ref (a 0)), (1, .int p1), (2, .int p2), (3, .int p3), (4, .int p4), (5, .ref ao)] := hl
  obtain ⟨H0, hHe⟩ : ∃ H : Heap, s.heap = H := ⟨_, rfl⟩
  have hS : va_S A s.heap H0 [] := by rw [← hHe]; exact va_S.rf
  rw [hHe] at hP ⊢
  have hP := zP_perm (List.perm_append_comm (l₁ := [(ao, zoc tt vo)]) (l₂ := wL tt a b d wd fa od hd qc qs bc bs tl rl H q w fr tr g re fi ro im r pk cz lh lp se md ff)) hP
  have hD := zD_perm (List.perm_append_comm (l₁ := [(ao, zoc tt vo)]) (l₂ := wL tt a b d wd fa od hd qc qs bc bs tl rl H q w fr tr g re fi ro im r pk cz lh lp se md ff)) hD
  refine lv_aload hx hb dL_firstFrom_0 (lv_at hl 5 rfl) ?_
  refine lv_iconst (v := (0 : Int32)) hx hb dL_firstFrom_2 (by decide) ?_
  refine lv_aload_n hx hb dL_firstFrom_3 rfl (lv_at hl 0 rfl) ?_
  refine lv_iload_n hx hb dL_firstFrom_4 rfl (lv_at hl 1 rfl) ?_
  refine lv_iload_n hx hb dL_firstFrom_5 rfl (lv_at hl 2 rfl) ?_
  refine lv_iload_n hx hb dL_firstFrom_6 rfl (lv_at hl 3 rfl) ?_
  refine lv_iload hx hb dL_firstFrom_7 (lv_at hl 4 rfl) ?_
  refine z_callXi (wc := wL tt a b d wd fa od hd qc qs bc bs tl rl H q w fr tr g re fi ro im r pk cz lh lp se md ff) (wr := [(ao, zoc tt vo)]) (As := [.int p1, .int p2, .int p3, .int p4]) (rest := [.int (0 : Int32), .ref ao]) (ci := 10) ⟨hx, hb, hml, hown, hts⟩ hK hN hX hP hD hS hA9 (nX11_firstFrom l G tt sa hlt H0.size K a b d wd fa od hd qc qs bc bs tl rl H q w fr tr g re fi ro im r pk cz lh lp se md ff p1 p2 p3 p4 RR hF) (cwV 4 hts gL_firstFrom_X11_firstFrom rfl rfl rfl (by decide +kernel) ⟨Nat.le_of_ble_eq_true rfl, Nat.le_of_ble_eq_true rfl⟩) rfl rfl rfl hl.1 rfl (Nat.le_of_ble_eq_true rfl) dL_firstFrom_9 ⟨Nat.le_of_ble_eq_true rfl, Nat.le_of_ble_eq_true rfl⟩ (fun k ce q9 H0 locs hk hP hD hS hce hcv hcl => ?_) (fun rr u H0 locs hw hP hD hS => ?_)
  · rcases hA with ⟨k9, hk9, ek, rfl⟩ | ⟨v9, ev, rfl⟩
    · obtain rfl : k9 = k := Sum.inl.inj (ek.symm.trans hk)
      have hk9 : k9 = 0 ∨ k9 = 1 ∨ k9 = 3 := by simpa using hk9
      rcases hk9 with rfl | rfl | rfl
      · have hz : zout Int32.toInt64 vo RR.1 = vo := by rw [hk]; rfl
        refine vx_catch (name := zEx 0) hown [] ⟨0, 14, 17, 21⟩ [⟨0, 14, 21, 13⟩, ⟨0, 14, 25, 26⟩] (htab.trans rfl) (fun z hz => by
            exact absurd hz List.not_mem_nil) (by decide) (by decide) (hts (.classLink RL 21 (zEx 0)) (List.mem_of_getElem? (i := 1) rfl)) (zX_cast hX 0 (by decide)) hce hcv hcl ?_
        refine lv_astore (lv' := [(6, .ref q9), (0, .ref (a 0)), (1, .int p1), (2, .int p2), (3, .int p3), (4, .int p4), (5, .ref ao)]) hx hb dL_firstFrom_17 hl (by decide) rfl (fun ls hl => ?_)
        refine lv_iconst (v := (1 : Int32)) hx hb dL_firstFrom_19 (by decide) ?_
        exact W.iret (v := (1 : Int32)) hx hb hr (fun t ht hW => ⟨⟨(1 : Int32), RR.2, rfl, ⟨rfl, rfl⟩, by rw [ht, hz]; exact hP, va_K.moved hW.alike hK, by rw [hz]; exact hD⟩, hS.F ht⟩) hS.2.2 dL_firstFrom_20
      · have hz : zout Int32.toInt64 vo RR.1 = vo := by rw [hk]; rfl
        refine vx_catch (name := zEx 1) hown [⟨0, 14, 17, 21⟩] ⟨0, 14, 21, 13⟩ [⟨0, 14, 25, 26⟩] (htab.trans rfl) (fun z hz => by
            rcases List.mem_cons.mp hz with rfl | hz
            · exact Or.inr ⟨by decide, zEx 0, (hts (.classLink RL 21 (zEx 0)) (List.mem_of_getElem? (i := 1) rfl)), hL 1 0 (by decide) (by decide) (by decide)⟩
            exact absurd hz List.not_mem_nil) (by decide) (by decide) (hts (.classLink RL 13 (zEx 1)) (List.mem_of_getElem? (i := 2) rfl)) (zX_cast hX 1 (by decide)) hce hcv hcl ?_
        refine lv_astore (lv' := [(6, .ref q9), (0, .ref (a 0)), (1, .int p1), (2, .int p2), (3, .int p3), (4, .int p4), (5, .ref ao)]) hx hb dL_firstFrom_21 hl (by decide) rfl (fun ls hl => ?_)
        refine lv_iconst (v := (2 : Int32)) hx hb dL_firstFrom_23 (by decide) ?_
        exact W.iret (v := (2 : Int32)) hx hb hr (fun t ht hW => ⟨⟨(2 : Int32), RR.2, rfl, ⟨rfl, rfl⟩, by rw [ht, hz]; exact hP, va_K.moved hW.alike hK, by rw [hz]; exact hD⟩, hS.F ht⟩) hS.2.2 dL_firstFrom_24
      · have hz : zout Int32.toInt64 vo RR.1 = vo := by rw [hk]; rfl
        refine vx_catch (name := zEx 3) hown [⟨0, 14, 17, 21⟩, ⟨0, 14, 21, 13⟩] ⟨0, 14, 25, 26⟩ [] (htab.trans rfl) (fun z hz => by
            rcases List.mem_cons.mp hz with rfl | hz
            · exact Or.inr ⟨by decide, zEx 0, (hts (.classLink RL 21 (zEx 0)) (List.mem_of_getElem? (i := 1) rfl)), hL 3 0 (by decide) (by decide) (by decide)⟩
            rcases List.mem_cons.mp hz with rfl | hz
            · exact Or.inr ⟨by decide, zEx 1, (hts (.classLink RL 13 (zEx 1)) (List.mem_of_getElem? (i := 2) rfl)), hL 3 1 (by decide) (by decide) (by decide)⟩
            exact absurd hz List.not_mem_nil) (by decide) (by decide) (hts (.classLink RL 26 (zEx 3)) (List.mem_of_getElem? (i := 3) rfl)) (zX_cast hX 3 (by decide)) hce hcv hcl ?_
        refine lv_astore (lv' := [(6, .ref q9), (0, .ref (a 0)), (1, .int p1), (2, .int p2), (3, .int p3), (4, .int p4), (5, .ref ao)]) hx hb dL_firstFrom_25 hl (by decide) rfl (fun ls hl => ?_)
        refine lv_iconst (v := (3 : Int32)) hx hb dL_firstFrom_27 (by decide) ?_
        exact W.iret (v := (3 : Int32)) hx hb hr (fun t ht hW => ⟨⟨(3 : Int32), RR.2, rfl, ⟨rfl, rfl⟩, by rw [ht, hz]; exact hP, va_K.moved hW.alike hK, by rw [hz]; exact hD⟩, hS.F ht⟩) hS.2.2 dL_firstFrom_28
    · cases hk.symm.trans ev
  · obtain ⟨er, hu⟩ := hw
    subst hu
    rcases hA with ⟨k9, hk9, ek, rfl⟩ | ⟨v9, ev, rfl⟩
    · cases er.symm.trans ek
    obtain rfl : v9 = rr := Sum.inr.inj (ev.symm.trans er)
    refine lv_i2l hx hb dL_firstFrom_12 rfl ?_
    refine va_last hx hb hK hP hD hS 0 1 rfl rfl (inB_vp (by decide)) dL_firstFrom_13 (fun H0 locs hP hD hS => ?_)
    have hP9 : va_P G vwCl ((ao, zoc tt (zout Int32.toInt64 vo RR.1)) :: wL tt a b d wd fa od hd qc qs bc bs tl rl H (RR.2.1, RR.2.2.1, RR.2.2.2.1, RR.2.2.2.2.1, RR.2.2.2.2.2.1, RR.2.2.2.2.2.2.1, RR.2.2.2.2.2.2.2.1, RR.2.2.2.2.2.2.2.2.1, RR.2.2.2.2.2.2.2.2.2.1, RR.2.2.2.2.2.2.2.2.2.2.1, RR.2.2.2.2.2.2.2.2.2.2.2.1, RR.2.2.2.2.2.2.2.2.2.2.2.2.1, RR.2.2.2.2.2.2.2.2.2.2.2.2.2.1) RR.2.2.2.2.2.2.2.2.2.2.2.2.2.2.1 RR.2.2.2.2.2.2.2.2.2.2.2.2.2.2.2.1 tr RR.2.2.2.2.2.2.2.2.2.2.2.2.2.2.2.2.1 RR.2.2.2.2.2.2.2.2.2.2.2.2.2.2.2.2.2.1 RR.2.2.2.2.2.2.2.2.2.2.2.2.2.2.2.2.2.2.1 RR.2.2.2.2.2.2.2.2.2.2.2.2.2.2.2.2.2.2.2.1 RR.2.2.2.2.2.2.2.2.2.2.2.2.2.2.2.2.2.2.2.2 r pk cz lh lp se md ff) H0 := by rw [er]; exact hP
    have hD9 : va_D A ((ao, zoc tt (zout Int32.toInt64 vo RR.1)) :: wL tt a b d wd fa od hd qc qs bc bs tl rl H (RR.2.1, RR.2.2.1, RR.2.2.2.1, RR.2.2.2.2.1, RR.2.2.2.2.2.1, RR.2.2.2.2.2.2.1, RR.2.2.2.2.2.2.2.1, RR.2.2.2.2.2.2.2.2.1, RR.2.2.2.2.2.2.2.2.2.1, RR.2.2.2.2.2.2.2.2.2.2.1, RR.2.2.2.2.2.2.2.2.2.2.2.1, RR.2.2.2.2.2.2.2.2.2.2.2.2.1, RR.2.2.2.2.2.2.2.2.2.2.2.2.2.1) RR.2.2.2.2.2.2.2.2.2.2.2.2.2.2.1 RR.2.2.2.2.2.2.2.2.2.2.2.2.2.2.2.1 tr RR.2.2.2.2.2.2.2.2.2.2.2.2.2.2.2.2.1 RR.2.2.2.2.2.2.2.2.2.2.2.2.2.2.2.2.2.1 RR.2.2.2.2.2.2.2.2.2.2.2.2.2.2.2.2.2.2.1 RR.2.2.2.2.2.2.2.2.2.2.2.2.2.2.2.2.2.2.2.1 RR.2.2.2.2.2.2.2.2.2.2.2.2.2.2.2.2.2.2.2.2 r pk cz lh lp se md ff) := by rw [er]; exact hD
    refine lv_goto (tgt := 29) hx hb dL_firstFrom_14 (by decide) ?_
    refine lv_iconst (v := (0 : Int32)) hx hb dL_firstFrom_29 (by decide) ?_
    exact W.iret (v := (0 : Int32)) hx hb hr (fun t ht hW => ⟨⟨(0 : Int32), RR.2, rfl, ⟨rfl, rfl⟩, by rw [ht]; exact hP9, va_K.moved hW.alike hK, hD9⟩, hS.F ht⟩) hS.2.2 dL_firstFrom_30

set_option maxHeartbeats 4000000 in
set_option maxRecDepth 100000 in
theorem mL_values (l : Launch) (G : va_G) (tt : Nat → ClassId) (sa : Nat → Nat) (hlt : l.stackTraces = false) (sz : Nat) (K : Nat) (a : Nat → Nat) (b : Nat → Nat → Nat) (d : Nat → Nat → Nat → Nat) (wd : Nat → Int32) (fa : Nat → Int64) (od hd : Nat → Int32) (qc : Nat → Nat → Int32) (qs : Nat → Int32) (bc : Nat → Nat → Int32) (bs : Nat → Int32) (tl rl : Int32) (H : zH12) (q : zR13) (w fr : Nat → Int64) (tr g re fi : Nat → Int32) (ro im : Int32) (r : zR15) (pk : Int32) (cz : Nat → Int32) (lh : Int32) (lp : Int64) (se : Nat → Int32) (md : Nat → Int64) (ff : Int32) (p1 : Int32) (p2 : Int32) (ao : Nat) (vo : Nat → Int64) (RR : (Nat ⊕ Int32) × (Nat → Int32) × Int32 × (Nat → Int32) × (Nat → Int32) × (Nat → Int32) × (Nat → Int32) × (Nat → Int32) × (Nat → Int32) × Int32 × Int32 × Int32 × Int32 × Int32 × (Nat → Int64) × (Nat → Int64) × (Nat → Int32) × (Nat → Int32) × (Nat → Int32) × Int32 × Int32) (hF : fX11_values K wd fa hd bc bs tl rl p1 p2 q.1 q.2.1 q.2.2.1 q.2.2.2.1 q.2.2.2.2.1 q.2.2.2.2.2.1 q.2.2.2.2.2.2.1 q.2.2.2.2.2.2.2.1 q.2.2.2.2.2.2.2.2.1 q.2.2.2.2.2.2.2.2.2.1 q.2.2.2.2.2.2.2.2.2.2.1 q.2.2.2.2.2.2.2.2.2.2.2.1 q.2.2.2.2.2.2.2.2.2.2.2.2 w fr g re fi ro im = some RR) (bb : Int32 × Int32) (hA : zAg [0] 0 RR.1 bb) : Met l yL_values wsL_values ({ frames := 8, cells := 2, slots := 12, locals := 188 } : Room) (zPreL G (zTy tt) sa [.ref (a 0), .int p1, .int p2, .ref ao] sz ((ao, zoc tt vo) :: wL tt a b d wd fa od hd qc qs bc bs tl rl H q w fr tr g re fi ro im r pk cz lh lp se md ff)) (va_Qi (fun (r : Int32) (u : (Nat → Int32) × Int32 × (Nat → Int32) × (Nat → Int32) × (Nat → Int32) × (Nat → Int32) × (Nat → Int32) × (Nat → Int32) × Int32 × Int32 × Int32 × Int32 × Int32 × (Nat → Int64) × (Nat → Int64) × (Nat → Int32) × (Nat → Int32) × (Nat → Int32) × Int32 × Int32) => r = bb.2 ∧ u = RR.2) (zAt G (zTy tt) (va_A ((ao, zoc tt vo) :: wL tt a b d wd fa od hd qc qs bc bs tl rl H q w fr tr g re fi ro im r pk cz lh lp se md ff) sz) (fun u : (Nat → Int32) × Int32 × (Nat → Int32) × (Nat → Int32) × (Nat → Int32) × (Nat → Int32) × (Nat → Int32) × (Nat → Int32) × Int32 × Int32 × Int32 × Int32 × Int32 × (Nat → Int64) × (Nat → Int64) × (Nat → Int32) × (Nat → Int32) × (Nat → Int32) × Int32 × Int32 => (ao, zoc tt (zout Int32.toInt64 vo RR.1)) :: wL tt a b d wd fa od hd qc qs bc bs tl rl H (u.1, u.2.1, u.2.2.1, u.2.2.2.1, u.2.2.2.2.1, u.2.2.2.2.2.1, u.2.2.2.2.2.2.1, u.2.2.2.2.2.2.2.1, u.2.2.2.2.2.2.2.2.1, u.2.2.2.2.2.2.2.2.2.1, u.2.2.2.2.2.2.2.2.2.2.1, u.2.2.2.2.2.2.2.2.2.2.2.1, u.2.2.2.2.2.2.2.2.2.2.2.2.1) u.2.2.2.2.2.2.2.2.2.2.2.2.2.1 u.2.2.2.2.2.2.2.2.2.2.2.2.2.2.1 tr u.2.2.2.2.2.2.2.2.2.2.2.2.2.2.2.1 u.2.2.2.2.2.2.2.2.2.2.2.2.2.2.2.2.1 u.2.2.2.2.2.2.2.2.2.2.2.2.2.2.2.2.2.1 u.2.2.2.2.2.2.2.2.2.2.2.2.2.2.2.2.2.2.1 u.2.2.2.2.2.2.2.2.2.2.2.2.2.2.2.2.2.2.2 r pk cz lh lp se md ff)) (va_A ((ao, zoc tt vo) :: wL tt a b d wd fa od hd qc qs bc bs tl rl H q w fr tr g re fi ro im r pk cz lh lp se md ff) sz)) 2 12 (va_A ((ao, zoc tt vo) :: wL tt a b d wd fa od hd qc qs bc bs tl rl H q w fr tr g re fi ro im r pk cz lh lp se md ff) sz) := by
  refine va_MetW (cc := cL_values) (maxL := 5) (ret := (some .int)) (hh := [(0, 10, 13, 21)]) (by decide +kernel) rfl ?_
  intro p e s m args below meth c s₁ B hml hv
  obtain ⟨⟨rfl, hsz, hP, hK, hD0, hN, hX⟩, hL⟩ := hv
  have hx := B.exec
  have hb := B.bytes
  have hr := B.returns
  have hts := atoms_spec (ws := wsL_values) B.pre
  have hown : s.vm.findClass RL = some m.cls := findClass_of_methodNamed B.named
  have hlocks := B.notSynchronized
  have htab : c.exceptionTable.toList = tableOf [(0, 10, 13, 21)] := vx_table (x := yL_values) B (hts _ List.mem_cons_self)
  subst hsz
  have hD := hD0.self (sz := s.heap.size)
  generalize hAe : va_A ((ao, zoc tt vo) :: wL tt a b d wd fa od hd qc qs bc bs tl rl H q w fr tr g re fi ro im r pk cz lh lp se md ff) s.heap.size = A at hD hX ⊢
  have hA9 : ∀ q : Nat, s.heap.size ≤ q → A q := fun q h => by rw [← hAe]; exact Or.inr h
  have hl := lv_entry ([.ref (a 0), .int p1, .int p2, .ref ao]) (n := 5) (Nat.le_of_ble_eq_true rfl)
  rw [lg_entry_eq]
  generalize (lg_sl ([.ref (a 0), .int p1, .int p2, .ref ao]) ++ List.replicate (5 - (lg_sl ([.ref (a 0), .int p1, .int p2, .ref ao])).length) Slot.unset).toArray = ls at hl ⊢
  have hl : lv_has ls 5 [(0, .ref (a 0)), (1, .int p1), (2, .int p2), (3, .ref ao)] := hl
  obtain ⟨H0, hHe⟩ : ∃ H : Heap, s.heap = H := ⟨_, rfl⟩
  have hS : va_S A s.heap H0 [] := by rw [← hHe]; exact va_S.rf
  rw [hHe] at hP ⊢
  have hP := zP_perm (List.perm_append_comm (l₁ := [(ao, zoc tt vo)]) (l₂ := wL tt a b d wd fa od hd qc qs bc bs tl rl H q w fr tr g re fi ro im r pk cz lh lp se md ff)) hP
  have hD := zD_perm (List.perm_append_comm (l₁ := [(ao, zoc tt vo)]) (l₂ := wL tt a b d wd fa od hd qc qs bc bs tl rl H q w fr tr g re fi ro im r pk cz lh lp se md ff)) hD
  refine lv_aload_n hx hb dL_values_0 rfl (lv_at hl 3 rfl) ?_
  refine lv_iconst (v := (0 : Int32)) hx hb dL_values_1 (by decide) ?_
  refine lv_aload_n hx hb dL_values_2 rfl (lv_at hl 0 rfl) ?_
  refine lv_iload_n hx hb dL_values_3 rfl (lv_at hl 1 rfl) ?_
  refine lv_iload_n hx hb dL_values_4 rfl (lv_at hl 2 rfl) ?_
  refine z_callXi (wc := wL tt a b d wd fa od hd qc qs bc bs tl rl H q w fr tr g re fi ro im r pk cz lh lp se md ff) (wr := [(ao, zoc tt vo)]) (As := [.int p1, .int p2]) (rest := [.int (0 : Int32), .ref ao]) (ci := 10) ⟨hx, hb, hml, hown, hts⟩ hK hN hX hP hD hS hA9 (nX11_values l G tt sa hlt H0.size K a b d wd fa od hd qc qs bc bs tl rl H q w fr tr g re fi ro im r pk cz lh lp se md ff p1 p2 RR hF) (cwV 2 hts gL_values_X11_values rfl rfl rfl (by decide +kernel) ⟨Nat.le_of_ble_eq_true rfl, Nat.le_of_ble_eq_true rfl⟩) rfl rfl rfl hl.1 rfl (Nat.le_of_ble_eq_true rfl) dL_values_5 ⟨Nat.le_of_ble_eq_true rfl, Nat.le_of_ble_eq_true rfl⟩ (fun k ce q9 H0 locs hk hP hD hS hce hcv hcl => ?_) (fun rr u H0 locs hw hP hD hS => ?_)
  · rcases hA with ⟨k9, hk9, ek, rfl⟩ | ⟨v9, ev, rfl⟩
    · obtain rfl : k9 = k := Sum.inl.inj (ek.symm.trans hk)
      have hk9 : k9 = 0 := by simpa using hk9
      subst hk9
      have hz : zout Int32.toInt64 vo RR.1 = vo := by rw [hk]; rfl
      refine vx_catch (name := zEx 0) hown [] ⟨0, 10, 13, 21⟩ [] (htab.trans rfl) (fun z hz => by
          exact absurd hz List.not_mem_nil) (by decide) (by decide) (hts (.classLink RL 21 (zEx 0)) (List.mem_of_getElem? (i := 1) rfl)) (zX_cast hX 0 (by decide)) hce hcv hcl ?_
      refine lv_astore (lv' := [(4, .ref q9), (0, .ref (a 0)), (1, .int p1), (2, .int p2), (3, .ref ao)]) hx hb dL_values_13 hl (by decide) rfl (fun ls hl => ?_)
      refine lv_iconst (v := (1 : Int32)) hx hb dL_values_15 (by decide) ?_
      exact W.iret (v := (1 : Int32)) hx hb hr (fun t ht hW => ⟨⟨(1 : Int32), RR.2, rfl, ⟨rfl, rfl⟩, by rw [ht, hz]; exact hP, va_K.moved hW.alike hK, by rw [hz]; exact hD⟩, hS.F ht⟩) hS.2.2 dL_values_16
    · cases hk.symm.trans ev
  · obtain ⟨er, hu⟩ := hw
    subst hu
    rcases hA with ⟨k9, hk9, ek, rfl⟩ | ⟨v9, ev, rfl⟩
    · cases er.symm.trans ek
    obtain rfl : v9 = rr := Sum.inr.inj (ev.symm.trans er)
    refine lv_i2l hx hb dL_values_8 rfl ?_
    refine va_last hx hb hK hP hD hS 0 1 rfl rfl (inB_vp (by decide)) dL_values_9 (fun H0 locs hP hD hS => ?_)
    have hP9 : va_P G vwCl ((ao, zoc tt (zout Int32.toInt64 vo RR.1)) :: wL tt a b d wd fa od hd qc qs bc bs tl rl H (RR.2.1, RR.2.2.1, RR.2.2.2.1, RR.2.2.2.2.1, RR.2.2.2.2.2.1, RR.2.2.2.2.2.2.1, RR.2.2.2.2.2.2.2.1, RR.2.2.2.2.2.2.2.2.1, RR.2.2.2.2.2.2.2.2.2.1, RR.2.2.2.2.2.2.2.2.2.2.1, RR.2.2.2.2.2.2.2.2.2.2.2.1, RR.2.2.2.2.2.2.2.2.2.2.2.2.1, RR.2.2.2.2.2.2.2.2.2.2.2.2.2.1) RR.2.2.2.2.2.2.2.2.2.2.2.2.2.2.1 RR.2.2.2.2.2.2.2.2.2.2.2.2.2.2.2.1 tr RR.2.2.2.2.2.2.2.2.2.2.2.2.2.2.2.2.1 RR.2.2.2.2.2.2.2.2.2.2.2.2.2.2.2.2.2.1 RR.2.2.2.2.2.2.2.2.2.2.2.2.2.2.2.2.2.2.1 RR.2.2.2.2.2.2.2.2.2.2.2.2.2.2.2.2.2.2.2.1 RR.2.2.2.2.2.2.2.2.2.2.2.2.2.2.2.2.2.2.2.2 r pk cz lh lp se md ff) H0 := by rw [er]; exact hP
    have hD9 : va_D A ((ao, zoc tt (zout Int32.toInt64 vo RR.1)) :: wL tt a b d wd fa od hd qc qs bc bs tl rl H (RR.2.1, RR.2.2.1, RR.2.2.2.1, RR.2.2.2.2.1, RR.2.2.2.2.2.1, RR.2.2.2.2.2.2.1, RR.2.2.2.2.2.2.2.1, RR.2.2.2.2.2.2.2.2.1, RR.2.2.2.2.2.2.2.2.2.1, RR.2.2.2.2.2.2.2.2.2.2.1, RR.2.2.2.2.2.2.2.2.2.2.2.1, RR.2.2.2.2.2.2.2.2.2.2.2.2.1, RR.2.2.2.2.2.2.2.2.2.2.2.2.2.1) RR.2.2.2.2.2.2.2.2.2.2.2.2.2.2.1 RR.2.2.2.2.2.2.2.2.2.2.2.2.2.2.2.1 tr RR.2.2.2.2.2.2.2.2.2.2.2.2.2.2.2.2.1 RR.2.2.2.2.2.2.2.2.2.2.2.2.2.2.2.2.2.1 RR.2.2.2.2.2.2.2.2.2.2.2.2.2.2.2.2.2.2.1 RR.2.2.2.2.2.2.2.2.2.2.2.2.2.2.2.2.2.2.2.1 RR.2.2.2.2.2.2.2.2.2.2.2.2.2.2.2.2.2.2.2.2 r pk cz lh lp se md ff) := by rw [er]; exact hD
    refine lv_goto (tgt := 17) hx hb dL_values_10 (by decide) ?_
    refine lv_iconst (v := (0 : Int32)) hx hb dL_values_17 (by decide) ?_
    exact W.iret (v := (0 : Int32)) hx hb hr (fun t ht hW => ⟨⟨(0 : Int32), RR.2, rfl, ⟨rfl, rfl⟩, by rw [ht]; exact hP9, va_K.moved hW.alike hK, hD9⟩, hS.F ht⟩) hS.2.2 dL_values_18

set_option maxHeartbeats 4000000 in
set_option maxRecDepth 100000 in
theorem mL_lower (l : Launch) (G : va_G) (tt : Nat → ClassId) (sa : Nat → Nat) (hlt : l.stackTraces = false) (sz : Nat) (K : Nat) (a : Nat → Nat) (b : Nat → Nat → Nat) (d : Nat → Nat → Nat → Nat) (wd : Nat → Int32) (fa : Nat → Int64) (od hd : Nat → Int32) (qc : Nat → Nat → Int32) (qs : Nat → Int32) (bc : Nat → Nat → Int32) (bs : Nat → Int32) (tl rl : Int32) (H : zH12) (q : zR13) (w fr : Nat → Int64) (tr g re fi : Nat → Int32) (ro im : Int32) (r : zR15) (pk : Int32) (cz : Nat → Int32) (lh : Int32) (lp : Int64) (se : Nat → Int32) (md : Nat → Int64) (ff : Int32) (p1 : Int32) (p2 : Int32) (ao : Nat) (vo : Nat → Int64) (RR : (Nat ⊕ Int32) × (Nat → Int32) × Int32 × (Nat → Int32) × (Nat → Int32) × (Nat → Int32) × (Nat → Int32) × (Nat → Int32) × (Nat → Int32) × Int32 × Int32 × Int32 × Int32 × Int32 × (Nat → Int64) × (Nat → Int64) × (Nat → Int32) × (Nat → Int32) × (Nat → Int32) × Int32 × Int32) (hF : fX11_lower K fa hd bc bs tl rl p1 p2 q.1 q.2.1 q.2.2.1 q.2.2.2.1 q.2.2.2.2.1 q.2.2.2.2.2.1 q.2.2.2.2.2.2.1 q.2.2.2.2.2.2.2.1 q.2.2.2.2.2.2.2.2.1 q.2.2.2.2.2.2.2.2.2.1 q.2.2.2.2.2.2.2.2.2.2.1 q.2.2.2.2.2.2.2.2.2.2.2.1 q.2.2.2.2.2.2.2.2.2.2.2.2 w fr g re fi ro im = some RR) (bb : Int32 × Int32) (hA : zAg [0, 1, 3] 0 RR.1 bb) : Met l yL_lower wsL_lower ({ frames := 8, cells := 2, slots := 12, locals := 187 } : Room) (zPreL G (zTy tt) sa [.ref (a 0), .int p1, .int p2, .ref ao] sz ((ao, zoc tt vo) :: wL tt a b d wd fa od hd qc qs bc bs tl rl H q w fr tr g re fi ro im r pk cz lh lp se md ff)) (va_Qi (fun (r : Int32) (u : (Nat → Int32) × Int32 × (Nat → Int32) × (Nat → Int32) × (Nat → Int32) × (Nat → Int32) × (Nat → Int32) × (Nat → Int32) × Int32 × Int32 × Int32 × Int32 × Int32 × (Nat → Int64) × (Nat → Int64) × (Nat → Int32) × (Nat → Int32) × (Nat → Int32) × Int32 × Int32) => r = bb.2 ∧ u = RR.2) (zAt G (zTy tt) (va_A ((ao, zoc tt vo) :: wL tt a b d wd fa od hd qc qs bc bs tl rl H q w fr tr g re fi ro im r pk cz lh lp se md ff) sz) (fun u : (Nat → Int32) × Int32 × (Nat → Int32) × (Nat → Int32) × (Nat → Int32) × (Nat → Int32) × (Nat → Int32) × (Nat → Int32) × Int32 × Int32 × Int32 × Int32 × Int32 × (Nat → Int64) × (Nat → Int64) × (Nat → Int32) × (Nat → Int32) × (Nat → Int32) × Int32 × Int32 => (ao, zoc tt (zout Int32.toInt64 vo RR.1)) :: wL tt a b d wd fa od hd qc qs bc bs tl rl H (u.1, u.2.1, u.2.2.1, u.2.2.2.1, u.2.2.2.2.1, u.2.2.2.2.2.1, u.2.2.2.2.2.2.1, u.2.2.2.2.2.2.2.1, u.2.2.2.2.2.2.2.2.1, u.2.2.2.2.2.2.2.2.2.1, u.2.2.2.2.2.2.2.2.2.2.1, u.2.2.2.2.2.2.2.2.2.2.2.1, u.2.2.2.2.2.2.2.2.2.2.2.2.1) u.2.2.2.2.2.2.2.2.2.2.2.2.2.1 u.2.2.2.2.2.2.2.2.2.2.2.2.2.2.1 tr u.2.2.2.2.2.2.2.2.2.2.2.2.2.2.2.1 u.2.2.2.2.2.2.2.2.2.2.2.2.2.2.2.2.1 u.2.2.2.2.2.2.2.2.2.2.2.2.2.2.2.2.2.1 u.2.2.2.2.2.2.2.2.2.2.2.2.2.2.2.2.2.2.1 u.2.2.2.2.2.2.2.2.2.2.2.2.2.2.2.2.2.2.2 r pk cz lh lp se md ff)) (va_A ((ao, zoc tt vo) :: wL tt a b d wd fa od hd qc qs bc bs tl rl H q w fr tr g re fi ro im r pk cz lh lp se md ff) sz)) 2 12 (va_A ((ao, zoc tt vo) :: wL tt a b d wd fa od hd qc qs bc bs tl rl H q w fr tr g re fi ro im r pk cz lh lp se md ff) sz) := by
  refine va_MetW (cc := cL_lower) (maxL := 5) (ret := (some .int)) (hh := [(0, 10, 13, 21), (0, 10, 17, 13), (0, 10, 21, 26)]) (by decide +kernel) rfl ?_
  intro p e s m args below meth c s₁ B hml hv
  obtain ⟨⟨rfl, hsz, hP, hK, hD0, hN, hX⟩, hL⟩ := hv
  have hx := B.exec
  have hb := B.bytes
  have hr := B.returns
  have hts := atoms_spec (ws := wsL_lower) B.pre
  have hown : s.vm.findClass RL = some m.cls := findClass_of_methodNamed B.named
  have hlocks := B.notSynchronized
  have htab : c.exceptionTable.toList = tableOf [(0, 10, 13, 21), (0, 10, 17, 13), (0, 10, 21, 26)] := vx_table (x := yL_lower) B (hts _ List.mem_cons_self)
  subst hsz
  have hD := hD0.self (sz := s.heap.size)
  generalize hAe : va_A ((ao, zoc tt vo) :: wL tt a b d wd fa od hd qc qs bc bs tl rl H q w fr tr g re fi ro im r pk cz lh lp se md ff) s.heap.size = A at hD hX ⊢
  have hA9 : ∀ q : Nat, s.heap.size ≤ q → A q := fun q h => by rw [← hAe]; exact Or.inr h
  have hl := lv_entry ([.ref (a 0), .int p1, .int p2, .ref ao]) (n := 5) (Nat.le_of_ble_eq_true rfl)
  rw [lg_entry_eq]
  generalize (lg_sl ([.ref (a 0), .int p1, .int p2, .ref ao]) ++ List.replicate (5 - (lg_sl ([.ref (a 0), .int p1, .int p2, .ref ao])).length) Slot.unset).toArray = ls at hl ⊢
  have hl : lv_has ls 5 [(0, .ref (a 0)), (1, .int p1), (2, .int p2), (3, .ref ao)] := hl
  obtain ⟨H0, hHe⟩ : ∃ H : Heap, s.heap = H := ⟨_, rfl⟩
  have hS : va_S A s.heap H0 [] := by rw [← hHe]; exact va_S.rf
  rw [hHe] at hP ⊢
  have hP := zP_perm (List.perm_append_comm (l₁ := [(ao, zoc tt vo)]) (l₂ := wL tt a b d wd fa od hd qc qs bc bs tl rl H q w fr tr g re fi ro im r pk cz lh lp se md ff)) hP
  have hD := zD_perm (List.perm_append_comm (l₁ := [(ao, zoc tt vo)]) (l₂ := wL tt a b d wd fa od hd qc qs bc bs tl rl H q w fr tr g re fi ro im r pk cz lh lp se md ff)) hD
  refine lv_aload_n hx hb dL_lower_0 rfl (lv_at hl 3 rfl) ?_
  refine lv_iconst (v := (0 : Int32)) hx hb dL_lower_1 (by decide) ?_
  refine lv_aload_n hx hb dL_lower_2 rfl (lv_at hl 0 rfl) ?_
  refine lv_iload_n hx hb dL_lower_3 rfl (lv_at hl 1 rfl) ?_
  refine lv_iload_n hx hb dL_lower_4 rfl (lv_at hl 2 rfl) ?_
  refine z_callXi (wc := wL tt a b d wd fa od hd qc qs bc bs tl rl H q w fr tr g re fi ro im r pk cz lh lp se md ff) (wr := [(ao, zoc tt vo)]) (As := [.int p1, .int p2]) (rest := [.int (0 : Int32), .ref ao]) (ci := 10) ⟨hx, hb, hml, hown, hts⟩ hK hN hX hP hD hS hA9 (nX11_lower l G tt sa hlt H0.size K a b d wd fa od hd qc qs bc bs tl rl H q w fr tr g re fi ro im r pk cz lh lp se md ff p1 p2 RR hF) (cwV 2 hts gL_lower_X11_lower rfl rfl rfl (by decide +kernel) ⟨Nat.le_of_ble_eq_true rfl, Nat.le_of_ble_eq_true rfl⟩) rfl rfl rfl hl.1 rfl (Nat.le_of_ble_eq_true rfl) dL_lower_5 ⟨Nat.le_of_ble_eq_true rfl, Nat.le_of_ble_eq_true rfl⟩ (fun k ce q9 H0 locs hk hP hD hS hce hcv hcl => ?_) (fun rr u H0 locs hw hP hD hS => ?_)
  · rcases hA with ⟨k9, hk9, ek, rfl⟩ | ⟨v9, ev, rfl⟩
    · obtain rfl : k9 = k := Sum.inl.inj (ek.symm.trans hk)
      have hk9 : k9 = 0 ∨ k9 = 1 ∨ k9 = 3 := by simpa using hk9
      rcases hk9 with rfl | rfl | rfl
      · have hz : zout Int32.toInt64 vo RR.1 = vo := by rw [hk]; rfl
        refine vx_catch (name := zEx 0) hown [] ⟨0, 10, 13, 21⟩ [⟨0, 10, 17, 13⟩, ⟨0, 10, 21, 26⟩] (htab.trans rfl) (fun z hz => by
            exact absurd hz List.not_mem_nil) (by decide) (by decide) (hts (.classLink RL 21 (zEx 0)) (List.mem_of_getElem? (i := 1) rfl)) (zX_cast hX 0 (by decide)) hce hcv hcl ?_
        refine lv_astore (lv' := [(4, .ref q9), (0, .ref (a 0)), (1, .int p1), (2, .int p2), (3, .ref ao)]) hx hb dL_lower_13 hl (by decide) rfl (fun ls hl => ?_)
        refine lv_iconst (v := (1 : Int32)) hx hb dL_lower_15 (by decide) ?_
        exact W.iret (v := (1 : Int32)) hx hb hr (fun t ht hW => ⟨⟨(1 : Int32), RR.2, rfl, ⟨rfl, rfl⟩, by rw [ht, hz]; exact hP, va_K.moved hW.alike hK, by rw [hz]; exact hD⟩, hS.F ht⟩) hS.2.2 dL_lower_16
      · have hz : zout Int32.toInt64 vo RR.1 = vo := by rw [hk]; rfl
        refine vx_catch (name := zEx 1) hown [⟨0, 10, 13, 21⟩] ⟨0, 10, 17, 13⟩ [⟨0, 10, 21, 26⟩] (htab.trans rfl) (fun z hz => by
            rcases List.mem_cons.mp hz with rfl | hz
            · exact Or.inr ⟨by decide, zEx 0, (hts (.classLink RL 21 (zEx 0)) (List.mem_of_getElem? (i := 1) rfl)), hL 1 0 (by decide) (by decide) (by decide)⟩
            exact absurd hz List.not_mem_nil) (by decide) (by decide) (hts (.classLink RL 13 (zEx 1)) (List.mem_of_getElem? (i := 2) rfl)) (zX_cast hX 1 (by decide)) hce hcv hcl ?_
        refine lv_astore (lv' := [(4, .ref q9), (0, .ref (a 0)), (1, .int p1), (2, .int p2), (3, .ref ao)]) hx hb dL_lower_17 hl (by decide) rfl (fun ls hl => ?_)
        refine lv_iconst (v := (2 : Int32)) hx hb dL_lower_19 (by decide) ?_
        exact W.iret (v := (2 : Int32)) hx hb hr (fun t ht hW => ⟨⟨(2 : Int32), RR.2, rfl, ⟨rfl, rfl⟩, by rw [ht, hz]; exact hP, va_K.moved hW.alike hK, by rw [hz]; exact hD⟩, hS.F ht⟩) hS.2.2 dL_lower_20
      · have hz : zout Int32.toInt64 vo RR.1 = vo := by rw [hk]; rfl
        refine vx_catch (name := zEx 3) hown [⟨0, 10, 13, 21⟩, ⟨0, 10, 17, 13⟩] ⟨0, 10, 21, 26⟩ [] (htab.trans rfl) (fun z hz => by
            rcases List.mem_cons.mp hz with rfl | hz
            · exact Or.inr ⟨by decide, zEx 0, (hts (.classLink RL 21 (zEx 0)) (List.mem_of_getElem? (i := 1) rfl)), hL 3 0 (by decide) (by decide) (by decide)⟩
            rcases List.mem_cons.mp hz with rfl | hz
            · exact Or.inr ⟨by decide, zEx 1, (hts (.classLink RL 13 (zEx 1)) (List.mem_of_getElem? (i := 2) rfl)), hL 3 1 (by decide) (by decide) (by decide)⟩
            exact absurd hz List.not_mem_nil) (by decide) (by decide) (hts (.classLink RL 26 (zEx 3)) (List.mem_of_getElem? (i := 3) rfl)) (zX_cast hX 3 (by decide)) hce hcv hcl ?_
        refine lv_astore (lv' := [(4, .ref q9), (0, .ref (a 0)), (1, .int p1), (2, .int p2), (3, .ref ao)]) hx hb dL_lower_21 hl (by decide) rfl (fun ls hl => ?_)
        refine lv_iconst (v := (3 : Int32)) hx hb dL_lower_23 (by decide) ?_
        exact W.iret (v := (3 : Int32)) hx hb hr (fun t ht hW => ⟨⟨(3 : Int32), RR.2, rfl, ⟨rfl, rfl⟩, by rw [ht, hz]; exact hP, va_K.moved hW.alike hK, by rw [hz]; exact hD⟩, hS.F ht⟩) hS.2.2 dL_lower_24
    · cases hk.symm.trans ev
  · obtain ⟨er, hu⟩ := hw
    subst hu
    rcases hA with ⟨k9, hk9, ek, rfl⟩ | ⟨v9, ev, rfl⟩
    · cases er.symm.trans ek
    obtain rfl : v9 = rr := Sum.inr.inj (ev.symm.trans er)
    refine lv_i2l hx hb dL_lower_8 rfl ?_
    refine va_last hx hb hK hP hD hS 0 1 rfl rfl (inB_vp (by decide)) dL_lower_9 (fun H0 locs hP hD hS => ?_)
    have hP9 : va_P G vwCl ((ao, zoc tt (zout Int32.toInt64 vo RR.1)) :: wL tt a b d wd fa od hd qc qs bc bs tl rl H (RR.2.1, RR.2.2.1, RR.2.2.2.1, RR.2.2.2.2.1, RR.2.2.2.2.2.1, RR.2.2.2.2.2.2.1, RR.2.2.2.2.2.2.2.1, RR.2.2.2.2.2.2.2.2.1, RR.2.2.2.2.2.2.2.2.2.1, RR.2.2.2.2.2.2.2.2.2.2.1, RR.2.2.2.2.2.2.2.2.2.2.2.1, RR.2.2.2.2.2.2.2.2.2.2.2.2.1, RR.2.2.2.2.2.2.2.2.2.2.2.2.2.1) RR.2.2.2.2.2.2.2.2.2.2.2.2.2.2.1 RR.2.2.2.2.2.2.2.2.2.2.2.2.2.2.2.1 tr RR.2.2.2.2.2.2.2.2.2.2.2.2.2.2.2.2.1 RR.2.2.2.2.2.2.2.2.2.2.2.2.2.2.2.2.2.1 RR.2.2.2.2.2.2.2.2.2.2.2.2.2.2.2.2.2.2.1 RR.2.2.2.2.2.2.2.2.2.2.2.2.2.2.2.2.2.2.2.1 RR.2.2.2.2.2.2.2.2.2.2.2.2.2.2.2.2.2.2.2.2 r pk cz lh lp se md ff) H0 := by rw [er]; exact hP
    have hD9 : va_D A ((ao, zoc tt (zout Int32.toInt64 vo RR.1)) :: wL tt a b d wd fa od hd qc qs bc bs tl rl H (RR.2.1, RR.2.2.1, RR.2.2.2.1, RR.2.2.2.2.1, RR.2.2.2.2.2.1, RR.2.2.2.2.2.2.1, RR.2.2.2.2.2.2.2.1, RR.2.2.2.2.2.2.2.2.1, RR.2.2.2.2.2.2.2.2.2.1, RR.2.2.2.2.2.2.2.2.2.2.1, RR.2.2.2.2.2.2.2.2.2.2.2.1, RR.2.2.2.2.2.2.2.2.2.2.2.2.1, RR.2.2.2.2.2.2.2.2.2.2.2.2.2.1) RR.2.2.2.2.2.2.2.2.2.2.2.2.2.2.1 RR.2.2.2.2.2.2.2.2.2.2.2.2.2.2.2.1 tr RR.2.2.2.2.2.2.2.2.2.2.2.2.2.2.2.2.1 RR.2.2.2.2.2.2.2.2.2.2.2.2.2.2.2.2.2.1 RR.2.2.2.2.2.2.2.2.2.2.2.2.2.2.2.2.2.2.1 RR.2.2.2.2.2.2.2.2.2.2.2.2.2.2.2.2.2.2.2.1 RR.2.2.2.2.2.2.2.2.2.2.2.2.2.2.2.2.2.2.2.2 r pk cz lh lp se md ff) := by rw [er]; exact hD
    refine lv_goto (tgt := 25) hx hb dL_lower_10 (by decide) ?_
    refine lv_iconst (v := (0 : Int32)) hx hb dL_lower_25 (by decide) ?_
    exact W.iret (v := (0 : Int32)) hx hb hr (fun t ht hW => ⟨⟨(0 : Int32), RR.2, rfl, ⟨rfl, rfl⟩, by rw [ht]; exact hP9, va_K.moved hW.alike hK, hD9⟩, hS.F ht⟩) hS.2.2 dL_lower_26

set_option maxHeartbeats 4000000 in
set_option maxRecDepth 100000 in
theorem mL_atomCount (l : Launch) (G : va_G) (tt : Nat → ClassId) (sa : Nat → Nat) (hlt : l.stackTraces = false) (sz : Nat) (a : Nat → Nat) (b : Nat → Nat → Nat) (d : Nat → Nat → Nat → Nat) (wd : Nat → Int32) (fa : Nat → Int64) (od hd : Nat → Int32) (qc : Nat → Nat → Int32) (qs : Nat → Int32) (bc : Nat → Nat → Int32) (bs : Nat → Int32) (tl rl : Int32) (H : zH12) (q : zR13) (w fr : Nat → Int64) (tr g re fi : Nat → Int32) (ro im : Int32) (r : zR15) (pk : Int32) (cz : Nat → Int32) (lh : Int32) (lp : Int64) (se : Nat → Int32) (md : Nat → Int64) (ff : Int32) (p1 : Int32) (ao : Nat) (vo : Nat → Int64) (RR : (Nat ⊕ Int32) × Unit) (hF : fX11_atomCount qs p1 = some RR) (bb : Int32 × Int32) (hA : zAg [0] 0 RR.1 bb) : Met l yL_atomCount wsL_atomCount ({ frames := 8, cells := 1, slots := 6, locals := 132 } : Room) (zPreL G (zTy tt) sa [.ref (a 0), .int p1, .ref ao] sz ((ao, zoc tt vo) :: wL tt a b d wd fa od hd qc qs bc bs tl rl H q w fr tr g re fi ro im r pk cz lh lp se md ff)) (va_Qi (fun (r : Int32) (u : Unit) => r = bb.2 ∧ u = RR.2) (zAt G (zTy tt) (va_A ((ao, zoc tt vo) :: wL tt a b d wd fa od hd qc qs bc bs tl rl H q w fr tr g re fi ro im r pk cz lh lp se md ff) sz) (fun _ : Unit => (ao, zoc tt (zout Int32.toInt64 vo RR.1)) :: wL tt a b d wd fa od hd qc qs bc bs tl rl H q w fr tr g re fi ro im r pk cz lh lp se md ff)) (va_A ((ao, zoc tt vo) :: wL tt a b d wd fa od hd qc qs bc bs tl rl H q w fr tr g re fi ro im r pk cz lh lp se md ff) sz)) 1 6 (va_A ((ao, zoc tt vo) :: wL tt a b d wd fa od hd qc qs bc bs tl rl H q w fr tr g re fi ro im r pk cz lh lp se md ff) sz) := by
  refine va_MetW (cc := cL_atomCount) (maxL := 4) (ret := (some .int)) (hh := [(0, 9, 12, 21)]) (by decide +kernel) rfl ?_
  intro p e s m args below meth c s₁ B hml hv
  obtain ⟨⟨rfl, hsz, hP, hK, hD0, hN, hX⟩, hL⟩ := hv
  have hx := B.exec
  have hb := B.bytes
  have hr := B.returns
  have hts := atoms_spec (ws := wsL_atomCount) B.pre
  have hown : s.vm.findClass RL = some m.cls := findClass_of_methodNamed B.named
  have hlocks := B.notSynchronized
  have htab : c.exceptionTable.toList = tableOf [(0, 9, 12, 21)] := vx_table (x := yL_atomCount) B (hts _ List.mem_cons_self)
  subst hsz
  have hD := hD0.self (sz := s.heap.size)
  generalize hAe : va_A ((ao, zoc tt vo) :: wL tt a b d wd fa od hd qc qs bc bs tl rl H q w fr tr g re fi ro im r pk cz lh lp se md ff) s.heap.size = A at hD hX ⊢
  have hA9 : ∀ q : Nat, s.heap.size ≤ q → A q := fun q h => by rw [← hAe]; exact Or.inr h
  have hl := lv_entry ([.ref (a 0), .int p1, .ref ao]) (n := 4) (Nat.le_of_ble_eq_true rfl)
  rw [lg_entry_eq]
  generalize (lg_sl ([.ref (a 0), .int p1, .ref ao]) ++ List.replicate (4 - (lg_sl ([.ref (a 0), .int p1, .ref ao])).length) Slot.unset).toArray = ls at hl ⊢
  have hl : lv_has ls 4 [(0, .ref (a 0)), (1, .int p1), (2, .ref ao)] := hl
  obtain ⟨H0, hHe⟩ : ∃ H : Heap, s.heap = H := ⟨_, rfl⟩
  have hS : va_S A s.heap H0 [] := by rw [← hHe]; exact va_S.rf
  rw [hHe] at hP ⊢
  have hP := zP_perm (List.perm_append_comm (l₁ := [(ao, zoc tt vo)]) (l₂ := wL tt a b d wd fa od hd qc qs bc bs tl rl H q w fr tr g re fi ro im r pk cz lh lp se md ff)) hP
  have hD := zD_perm (List.perm_append_comm (l₁ := [(ao, zoc tt vo)]) (l₂ := wL tt a b d wd fa od hd qc qs bc bs tl rl H q w fr tr g re fi ro im r pk cz lh lp se md ff)) hD
  refine lv_aload_n hx hb dL_atomCount_0 rfl (lv_at hl 2 rfl) ?_
  refine lv_iconst (v := (0 : Int32)) hx hb dL_atomCount_1 (by decide) ?_
  refine lv_aload_n hx hb dL_atomCount_2 rfl (lv_at hl 0 rfl) ?_
  refine lv_iload_n hx hb dL_atomCount_3 rfl (lv_at hl 1 rfl) ?_
  refine z_callXi (wc := wL tt a b d wd fa od hd qc qs bc bs tl rl H q w fr tr g re fi ro im r pk cz lh lp se md ff) (wr := [(ao, zoc tt vo)]) (As := [.int p1]) (rest := [.int (0 : Int32), .ref ao]) (ci := 10) ⟨hx, hb, hml, hown, hts⟩ hK hN hX hP hD hS hA9 (nX11_atomCount l G tt sa hlt H0.size a b d wd fa od hd qc qs bc bs tl rl H q w fr tr g re fi ro im r pk cz lh lp se md ff p1 RR hF) (cwV 1 hts gL_atomCount_X11_atomCount rfl rfl rfl (by decide +kernel) ⟨Nat.le_of_ble_eq_true rfl, Nat.le_of_ble_eq_true rfl⟩) rfl rfl rfl hl.1 rfl (Nat.le_of_ble_eq_true rfl) dL_atomCount_4 ⟨Nat.le_of_ble_eq_true rfl, Nat.le_of_ble_eq_true rfl⟩ (fun k ce q9 H0 locs hk hP hD hS hce hcv hcl => ?_) (fun rr u H0 locs hw hP hD hS => ?_)
  · rcases hA with ⟨k9, hk9, ek, rfl⟩ | ⟨v9, ev, rfl⟩
    · obtain rfl : k9 = k := Sum.inl.inj (ek.symm.trans hk)
      have hk9 : k9 = 0 := by simpa using hk9
      subst hk9
      have hz : zout Int32.toInt64 vo RR.1 = vo := by rw [hk]; rfl
      refine vx_catch (name := zEx 0) hown [] ⟨0, 9, 12, 21⟩ [] (htab.trans rfl) (fun z hz => by
          exact absurd hz List.not_mem_nil) (by decide) (by decide) (hts (.classLink RL 21 (zEx 0)) (List.mem_of_getElem? (i := 1) rfl)) (zX_cast hX 0 (by decide)) hce hcv hcl ?_
      refine lv_astore_n (lv' := [(3, .ref q9), (0, .ref (a 0)), (1, .int p1), (2, .ref ao)]) hx hb dL_atomCount_12 rfl hl (by decide) rfl (fun ls hl => ?_)
      refine lv_iconst (v := (1 : Int32)) hx hb dL_atomCount_13 (by decide) ?_
      exact W.iret (v := (1 : Int32)) hx hb hr (fun t ht hW => ⟨⟨(1 : Int32), RR.2, rfl, ⟨rfl, rfl⟩, by rw [ht, hz]; exact hP, va_K.moved hW.alike hK, by rw [hz]; exact hD⟩, hS.F ht⟩) hS.2.2 dL_atomCount_14
    · cases hk.symm.trans ev
  · obtain ⟨er, hu⟩ := hw
    subst hu
    rcases hA with ⟨k9, hk9, ek, rfl⟩ | ⟨v9, ev, rfl⟩
    · cases er.symm.trans ek
    obtain rfl : v9 = rr := Sum.inr.inj (ev.symm.trans er)
    refine lv_i2l hx hb dL_atomCount_7 rfl ?_
    refine va_last hx hb hK hP hD hS 0 1 rfl rfl (inB_vp (by decide)) dL_atomCount_8 (fun H0 locs hP hD hS => ?_)
    have hP9 : va_P G vwCl ((ao, zoc tt (zout Int32.toInt64 vo RR.1)) :: wL tt a b d wd fa od hd qc qs bc bs tl rl H q w fr tr g re fi ro im r pk cz lh lp se md ff) H0 := by rw [er]; exact hP
    have hD9 : va_D A ((ao, zoc tt (zout Int32.toInt64 vo RR.1)) :: wL tt a b d wd fa od hd qc qs bc bs tl rl H q w fr tr g re fi ro im r pk cz lh lp se md ff) := by rw [er]; exact hD
    refine lv_goto (tgt := 15) hx hb dL_atomCount_9 (by decide) ?_
    refine lv_iconst (v := (0 : Int32)) hx hb dL_atomCount_15 (by decide) ?_
    exact W.iret (v := (0 : Int32)) hx hb hr (fun t ht hW => ⟨⟨(0 : Int32), RR.2, rfl, ⟨rfl, rfl⟩, by rw [ht]; exact hP9, va_K.moved hW.alike hK, hD9⟩, hS.F ht⟩) hS.2.2 dL_atomCount_16

set_option maxHeartbeats 4000000 in
set_option maxRecDepth 100000 in
theorem mL_answers (l : Launch) (G : va_G) (tt : Nat → ClassId) (sa : Nat → Nat) (hlt : l.stackTraces = false) (sz : Nat) (K : Nat) (a : Nat → Nat) (b : Nat → Nat → Nat) (d : Nat → Nat → Nat → Nat) (wd : Nat → Int32) (fa : Nat → Int64) (od hd : Nat → Int32) (qc : Nat → Nat → Int32) (qs : Nat → Int32) (bc : Nat → Nat → Int32) (bs : Nat → Int32) (tl rl : Int32) (H : zH12) (q : zR13) (w fr : Nat → Int64) (tr g re fi : Nat → Int32) (ro im : Int32) (r : zR15) (pk : Int32) (cz : Nat → Int32) (lh : Int32) (lp : Int64) (se : Nat → Int32) (md : Nat → Int64) (ff : Int32) (p1 : Int32) (ao : Nat) (vo : Nat → Int64) (RR : (Nat ⊕ Int32) × (Nat → Int32) × Int32 × (Nat → Int32) × (Nat → Int32) × (Nat → Int32) × (Nat → Int32) × (Nat → Int32) × (Nat → Int32) × Int32 × Int32 × Int32 × Int32 × Int32 × (Nat → Int64) × (Nat → Int64) × (Nat → Int32) × (Nat → Int32) × (Nat → Int32) × Int32 × Int32 × (Nat → Int32) × Int32 × (Nat → Int32) × (Nat → Int32) × (Nat → Int32) × (Nat → Int32) × (Nat → Int32) × (Nat → Int32) × Int32 × Int32 × Int32 × Int32 × Int32 × (Nat → Int64) × Int32 × Int32) (hF : fX11_answers K fa od hd qc qs bc bs rl p1 q.1 q.2.1 q.2.2.1 q.2.2.2.1 q.2.2.2.2.1 q.2.2.2.2.2.1 q.2.2.2.2.2.2.1 q.2.2.2.2.2.2.2.1 q.2.2.2.2.2.2.2.2.1 q.2.2.2.2.2.2.2.2.2.1 q.2.2.2.2.2.2.2.2.2.2.1 q.2.2.2.2.2.2.2.2.2.2.2.1 q.2.2.2.2.2.2.2.2.2.2.2.2 w fr g re fi ro im r.1 r.2.1 r.2.2.1 r.2.2.2.1 r.2.2.2.2.1 r.2.2.2.2.2.1 r.2.2.2.2.2.2.1 r.2.2.2.2.2.2.2.1 r.2.2.2.2.2.2.2.2.1 r.2.2.2.2.2.2.2.2.2.1 r.2.2.2.2.2.2.2.2.2.2.1 r.2.2.2.2.2.2.2.2.2.2.2.1 r.2.2.2.2.2.2.2.2.2.2.2.2.1 r.2.2.2.2.2.2.2.2.2.2.2.2.2.1 r.2.2.2.2.2.2.2.2.2.2.2.2.2.2 ff = some RR) (bb : Int32 × Int32) (hA : zAg [0] 0 RR.1 bb) : Met l yL_answers wsL_answers ({ frames := 8, cells := 1, slots := 6, locals := 185 } : Room) (zPreL G (zTy tt) sa [.ref (a 0), .int p1, .ref ao] sz ((ao, zoc tt vo) :: wL tt a b d wd fa od hd qc qs bc bs tl rl H q w fr tr g re fi ro im r pk cz lh lp se md ff)) (va_Qi (fun (r : Int32) (u : (Nat → Int32) × Int32 × (Nat → Int32) × (Nat → Int32) × (Nat → Int32) × (Nat → Int32) × (Nat → Int32) × (Nat → Int32) × Int32 × Int32 × Int32 × Int32 × Int32 × (Nat → Int64) × (Nat → Int64) × (Nat → Int32) × (Nat → Int32) × (Nat → Int32) × Int32 × Int32 × (Nat → Int32) × Int32 × (Nat → Int32) × (Nat → Int32) × (Nat → Int32) × (Nat → Int32) × (Nat → Int32) × (Nat → Int32) × Int32 × Int32 × Int32 × Int32 × Int32 × (Nat → Int64) × Int32 × Int32) => r = bb.2 ∧ u = RR.2) (zAt G (zTy tt) (va_A ((ao, zoc tt vo) :: wL tt a b d wd fa od hd qc qs bc bs tl rl H q w fr tr g re fi ro im r pk cz lh lp se md ff) sz) (fun u : (Nat → Int32) × Int32 × (Nat → Int32) × (Nat → Int32) × (Nat → Int32) × (Nat → Int32) × (Nat → Int32) × (Nat → Int32) × Int32 × Int32 × Int32 × Int32 × Int32 × (Nat → Int64) × (Nat → Int64) × (Nat → Int32) × (Nat → Int32) × (Nat → Int32) × Int32 × Int32 × (Nat → Int32) × Int32 × (Nat → Int32) × (Nat → Int32) × (Nat → Int32) × (Nat → Int32) × (Nat → Int32) × (Nat → Int32) × Int32 × Int32 × Int32 × Int32 × Int32 × (Nat → Int64) × Int32 × Int32 => (ao, zoc tt (zout Int32.toInt64 vo RR.1)) :: wL tt a b d wd fa od hd qc qs bc bs tl rl H (u.1, u.2.1, u.2.2.1, u.2.2.2.1, u.2.2.2.2.1, u.2.2.2.2.2.1, u.2.2.2.2.2.2.1, u.2.2.2.2.2.2.2.1, u.2.2.2.2.2.2.2.2.1, u.2.2.2.2.2.2.2.2.2.1, u.2.2.2.2.2.2.2.2.2.2.1, u.2.2.2.2.2.2.2.2.2.2.2.1, u.2.2.2.2.2.2.2.2.2.2.2.2.1) u.2.2.2.2.2.2.2.2.2.2.2.2.2.1 u.2.2.2.2.2.2.2.2.2.2.2.2.2.2.1 tr u.2.2.2.2.2.2.2.2.2.2.2.2.2.2.2.1 u.2.2.2.2.2.2.2.2.2.2.2.2.2.2.2.2.1 u.2.2.2.2.2.2.2.2.2.2.2.2.2.2.2.2.2.1 u.2.2.2.2.2.2.2.2.2.2.2.2.2.2.2.2.2.2.1 u.2.2.2.2.2.2.2.2.2.2.2.2.2.2.2.2.2.2.2.1 (u.2.2.2.2.2.2.2.2.2.2.2.2.2.2.2.2.2.2.2.2.1, u.2.2.2.2.2.2.2.2.2.2.2.2.2.2.2.2.2.2.2.2.2.1, u.2.2.2.2.2.2.2.2.2.2.2.2.2.2.2.2.2.2.2.2.2.2.1, u.2.2.2.2.2.2.2.2.2.2.2.2.2.2.2.2.2.2.2.2.2.2.2.1, u.2.2.2.2.2.2.2.2.2.2.2.2.2.2.2.2.2.2.2.2.2.2.2.2.1, u.2.2.2.2.2.2.2.2.2.2.2.2.2.2.2.2.2.2.2.2.2.2.2.2.2.1, u.2.2.2.2.2.2.2.2.2.2.2.2.2.2.2.2.2.2.2.2.2.2.2.2.2.2.1, u.2.2.2.2.2.2.2.2.2.2.2.2.2.2.2.2.2.2.2.2.2.2.2.2.2.2.2.1, u.2.2.2.2.2.2.2.2.2.2.2.2.2.2.2.2.2.2.2.2.2.2.2.2.2.2.2.2.1, u.2.2.2.2.2.2.2.2.2.2.2.2.2.2.2.2.2.2.2.2.2.2.2.2.2.2.2.2.2.1, u.2.2.2.2.2.2.2.2.2.2.2.2.2.2.2.2.2.2.2.2.2.2.2.2.2.2.2.2.2.2.1, u.2.2.2.2.2.2.2.2.2.2.2.2.2.2.2.2.2.2.2.2.2.2.2.2.2.2.2.2.2.2.2.1, u.2.2.2.2.2.2.2.2.2.2.2.2.2.2.2.2.2.2.2.2.2.2.2.2.2.2.2.2.2.2.2.2.1, u.2.2.2.2.2.2.2.2.2.2.2.2.2.2.2.2.2.2.2.2.2.2.2.2.2.2.2.2.2.2.2.2.2.1, u.2.2.2.2.2.2.2.2.2.2.2.2.2.2.2.2.2.2.2.2.2.2.2.2.2.2.2.2.2.2.2.2.2.2.1) pk cz lh lp se md u.2.2.2.2.2.2.2.2.2.2.2.2.2.2.2.2.2.2.2.2.2.2.2.2.2.2.2.2.2.2.2.2.2.2.2)) (va_A ((ao, zoc tt vo) :: wL tt a b d wd fa od hd qc qs bc bs tl rl H q w fr tr g re fi ro im r pk cz lh lp se md ff) sz)) 1 6 (va_A ((ao, zoc tt vo) :: wL tt a b d wd fa od hd qc qs bc bs tl rl H q w fr tr g re fi ro im r pk cz lh lp se md ff) sz) := by
  refine va_MetW (cc := cL_answers) (maxL := 4) (ret := (some .int)) (hh := [(0, 9, 12, 21)]) (by decide +kernel) rfl ?_
  intro p e s m args below meth c s₁ B hml hv
  obtain ⟨⟨rfl, hsz, hP, hK, hD0, hN, hX⟩, hL⟩ := hv
  have hx := B.exec
  have hb := B.bytes
  have hr := B.returns
  have hts := atoms_spec (ws := wsL_answers) B.pre
  have hown : s.vm.findClass RL = some m.cls := findClass_of_methodNamed B.named
  have hlocks := B.notSynchronized
  have htab : c.exceptionTable.toList = tableOf [(0, 9, 12, 21)] := vx_table (x := yL_answers) B (hts _ List.mem_cons_self)
  subst hsz
  have hD := hD0.self (sz := s.heap.size)
  generalize hAe : va_A ((ao, zoc tt vo) :: wL tt a b d wd fa od hd qc qs bc bs tl rl H q w fr tr g re fi ro im r pk cz lh lp se md ff) s.heap.size = A at hD hX ⊢
  have hA9 : ∀ q : Nat, s.heap.size ≤ q → A q := fun q h => by rw [← hAe]; exact Or.inr h
  have hl := lv_entry ([.ref (a 0), .int p1, .ref ao]) (n := 4) (Nat.le_of_ble_eq_true rfl)
  rw [lg_entry_eq]
  generalize (lg_sl ([.ref (a 0), .int p1, .ref ao]) ++ List.replicate (4 - (lg_sl ([.ref (a 0), .int p1, .ref ao])).length) Slot.unset).toArray = ls at hl ⊢
  have hl : lv_has ls 4 [(0, .ref (a 0)), (1, .int p1), (2, .ref ao)] := hl
  obtain ⟨H0, hHe⟩ : ∃ H : Heap, s.heap = H := ⟨_, rfl⟩
  have hS : va_S A s.heap H0 [] := by rw [← hHe]; exact va_S.rf
  rw [hHe] at hP ⊢
  have hP := zP_perm (List.perm_append_comm (l₁ := [(ao, zoc tt vo)]) (l₂ := wL tt a b d wd fa od hd qc qs bc bs tl rl H q w fr tr g re fi ro im r pk cz lh lp se md ff)) hP
  have hD := zD_perm (List.perm_append_comm (l₁ := [(ao, zoc tt vo)]) (l₂ := wL tt a b d wd fa od hd qc qs bc bs tl rl H q w fr tr g re fi ro im r pk cz lh lp se md ff)) hD
  refine lv_aload_n hx hb dL_answers_0 rfl (lv_at hl 2 rfl) ?_
  refine lv_iconst (v := (0 : Int32)) hx hb dL_answers_1 (by decide) ?_
  refine lv_aload_n hx hb dL_answers_2 rfl (lv_at hl 0 rfl) ?_
  refine lv_iload_n hx hb dL_answers_3 rfl (lv_at hl 1 rfl) ?_
  refine z_callXi (wc := wL tt a b d wd fa od hd qc qs bc bs tl rl H q w fr tr g re fi ro im r pk cz lh lp se md ff) (wr := [(ao, zoc tt vo)]) (As := [.int p1]) (rest := [.int (0 : Int32), .ref ao]) (ci := 10) ⟨hx, hb, hml, hown, hts⟩ hK hN hX hP hD hS hA9 (nX11_answers l G tt sa hlt H0.size K a b d wd fa od hd qc qs bc bs tl rl H q w fr tr g re fi ro im r pk cz lh lp se md ff p1 RR hF) (cwV 1 hts gL_answers_X11_answers rfl rfl rfl (by decide +kernel) ⟨Nat.le_of_ble_eq_true rfl, Nat.le_of_ble_eq_true rfl⟩) rfl rfl rfl hl.1 rfl (Nat.le_of_ble_eq_true rfl) dL_answers_4 ⟨Nat.le_of_ble_eq_true rfl, Nat.le_of_ble_eq_true rfl⟩ (fun k ce q9 H0 locs hk hP hD hS hce hcv hcl => ?_) (fun rr u H0 locs hw hP hD hS => ?_)
  · rcases hA with ⟨k9, hk9, ek, rfl⟩ | ⟨v9, ev, rfl⟩
    · obtain rfl : k9 = k := Sum.inl.inj (ek.symm.trans hk)
      have hk9 : k9 = 0 := by simpa using hk9
      subst hk9
      have hz : zout Int32.toInt64 vo RR.1 = vo := by rw [hk]; rfl
      refine vx_catch (name := zEx 0) hown [] ⟨0, 9, 12, 21⟩ [] (htab.trans rfl) (fun z hz => by
          exact absurd hz List.not_mem_nil) (by decide) (by decide) (hts (.classLink RL 21 (zEx 0)) (List.mem_of_getElem? (i := 1) rfl)) (zX_cast hX 0 (by decide)) hce hcv hcl ?_
      refine lv_astore_n (lv' := [(3, .ref q9), (0, .ref (a 0)), (1, .int p1), (2, .ref ao)]) hx hb dL_answers_12 rfl hl (by decide) rfl (fun ls hl => ?_)
      refine lv_iconst (v := (1 : Int32)) hx hb dL_answers_13 (by decide) ?_
      exact W.iret (v := (1 : Int32)) hx hb hr (fun t ht hW => ⟨⟨(1 : Int32), RR.2, rfl, ⟨rfl, rfl⟩, by rw [ht, hz]; exact hP, va_K.moved hW.alike hK, by rw [hz]; exact hD⟩, hS.F ht⟩) hS.2.2 dL_answers_14
    · cases hk.symm.trans ev
  · obtain ⟨er, hu⟩ := hw
    subst hu
    rcases hA with ⟨k9, hk9, ek, rfl⟩ | ⟨v9, ev, rfl⟩
    · cases er.symm.trans ek
    obtain rfl : v9 = rr := Sum.inr.inj (ev.symm.trans er)
    refine lv_i2l hx hb dL_answers_7 rfl ?_
    refine va_last hx hb hK hP hD hS 0 1 rfl rfl (inB_vp (by decide)) dL_answers_8 (fun H0 locs hP hD hS => ?_)
    have hP9 : va_P G vwCl ((ao, zoc tt (zout Int32.toInt64 vo RR.1)) :: wL tt a b d wd fa od hd qc qs bc bs tl rl H (RR.2.1, RR.2.2.1, RR.2.2.2.1, RR.2.2.2.2.1, RR.2.2.2.2.2.1, RR.2.2.2.2.2.2.1, RR.2.2.2.2.2.2.2.1, RR.2.2.2.2.2.2.2.2.1, RR.2.2.2.2.2.2.2.2.2.1, RR.2.2.2.2.2.2.2.2.2.2.1, RR.2.2.2.2.2.2.2.2.2.2.2.1, RR.2.2.2.2.2.2.2.2.2.2.2.2.1, RR.2.2.2.2.2.2.2.2.2.2.2.2.2.1) RR.2.2.2.2.2.2.2.2.2.2.2.2.2.2.1 RR.2.2.2.2.2.2.2.2.2.2.2.2.2.2.2.1 tr RR.2.2.2.2.2.2.2.2.2.2.2.2.2.2.2.2.1 RR.2.2.2.2.2.2.2.2.2.2.2.2.2.2.2.2.2.1 RR.2.2.2.2.2.2.2.2.2.2.2.2.2.2.2.2.2.2.1 RR.2.2.2.2.2.2.2.2.2.2.2.2.2.2.2.2.2.2.2.1 RR.2.2.2.2.2.2.2.2.2.2.2.2.2.2.2.2.2.2.2.2.1 (RR.2.2.2.2.2.2.2.2.2.2.2.2.2.2.2.2.2.2.2.2.2.1, RR.2.2.2.2.2.2.2.2.2.2.2.2.2.2.2.2.2.2.2.2.2.2.1, RR.2.2.2.2.2.2.2.2.2.2.2.2.2.2.2.2.2.2.2.2.2.2.2.1, RR.2.2.2.2.2.2.2.2.2.2.2.2.2.2.2.2.2.2.2.2.2.2.2.2.1, RR.2.2.2.2.2.2.2.2.2.2.2.2.2.2.2.2.2.2.2.2.2.2.2.2.2.1, RR.2.2.2.2.2.2.2.2.2.2.2.2.2.2.2.2.2.2.2.2.2.2.2.2.2.2.1, RR.2.2.2.2.2.2.2.2.2.2.2.2.2.2.2.2.2.2.2.2.2.2.2.2.2.2.2.1, RR.2.2.2.2.2.2.2.2.2.2.2.2.2.2.2.2.2.2.2.2.2.2.2.2.2.2.2.2.1, RR.2.2.2.2.2.2.2.2.2.2.2.2.2.2.2.2.2.2.2.2.2.2.2.2.2.2.2.2.2.1, RR.2.2.2.2.2.2.2.2.2.2.2.2.2.2.2.2.2.2.2.2.2.2.2.2.2.2.2.2.2.2.1, RR.2.2.2.2.2.2.2.2.2.2.2.2.2.2.2.2.2.2.2.2.2.2.2.2.2.2.2.2.2.2.2.1, RR.2.2.2.2.2.2.2.2.2.2.2.2.2.2.2.2.2.2.2.2.2.2.2.2.2.2.2.2.2.2.2.2.1, RR.2.2.2.2.2.2.2.2.2.2.2.2.2.2.2.2.2.2.2.2.2.2.2.2.2.2.2.2.2.2.2.2.2.1, RR.2.2.2.2.2.2.2.2.2.2.2.2.2.2.2.2.2.2.2.2.2.2.2.2.2.2.2.2.2.2.2.2.2.2.1, RR.2.2.2.2.2.2.2.2.2.2.2.2.2.2.2.2.2.2.2.2.2.2.2.2.2.2.2.2.2.2.2.2.2.2.2.1) pk cz lh lp se md RR.2.2.2.2.2.2.2.2.2.2.2.2.2.2.2.2.2.2.2.2.2.2.2.2.2.2.2.2.2.2.2.2.2.2.2.2) H0 := by rw [er]; exact hP
    have hD9 : va_D A ((ao, zoc tt (zout Int32.toInt64 vo RR.1)) :: wL tt a b d wd fa od hd qc qs bc bs tl rl H (RR.2.1, RR.2.2.1, RR.2.2.2.1, RR.2.2.2.2.1, RR.2.2.2.2.2.1, RR.2.2.2.2.2.2.1, RR.2.2.2.2.2.2.2.1, RR.2.2.2.2.2.2.2.2.1, RR.2.2.2.2.2.2.2.2.2.1, RR.2.2.2.2.2.2.2.2.2.2.1, RR.2.2.2.2.2.2.2.2.2.2.2.1, RR.2.2.2.2.2.2.2.2.2.2.2.2.1, RR.2.2.2.2.2.2.2.2.2.2.2.2.2.1) RR.2.2.2.2.2.2.2.2.2.2.2.2.2.2.1 RR.2.2.2.2.2.2.2.2.2.2.2.2.2.2.2.1 tr RR.2.2.2.2.2.2.2.2.2.2.2.2.2.2.2.2.1 RR.2.2.2.2.2.2.2.2.2.2.2.2.2.2.2.2.2.1 RR.2.2.2.2.2.2.2.2.2.2.2.2.2.2.2.2.2.2.1 RR.2.2.2.2.2.2.2.2.2.2.2.2.2.2.2.2.2.2.2.1 RR.2.2.2.2.2.2.2.2.2.2.2.2.2.2.2.2.2.2.2.2.1 (RR.2.2.2.2.2.2.2.2.2.2.2.2.2.2.2.2.2.2.2.2.2.1, RR.2.2.2.2.2.2.2.2.2.2.2.2.2.2.2.2.2.2.2.2.2.2.1, RR.2.2.2.2.2.2.2.2.2.2.2.2.2.2.2.2.2.2.2.2.2.2.2.1, RR.2.2.2.2.2.2.2.2.2.2.2.2.2.2.2.2.2.2.2.2.2.2.2.2.1, RR.2.2.2.2.2.2.2.2.2.2.2.2.2.2.2.2.2.2.2.2.2.2.2.2.2.1, RR.2.2.2.2.2.2.2.2.2.2.2.2.2.2.2.2.2.2.2.2.2.2.2.2.2.2.1, RR.2.2.2.2.2.2.2.2.2.2.2.2.2.2.2.2.2.2.2.2.2.2.2.2.2.2.2.1, RR.2.2.2.2.2.2.2.2.2.2.2.2.2.2.2.2.2.2.2.2.2.2.2.2.2.2.2.2.1, RR.2.2.2.2.2.2.2.2.2.2.2.2.2.2.2.2.2.2.2.2.2.2.2.2.2.2.2.2.2.1, RR.2.2.2.2.2.2.2.2.2.2.2.2.2.2.2.2.2.2.2.2.2.2.2.2.2.2.2.2.2.2.1, RR.2.2.2.2.2.2.2.2.2.2.2.2.2.2.2.2.2.2.2.2.2.2.2.2.2.2.2.2.2.2.2.1, RR.2.2.2.2.2.2.2.2.2.2.2.2.2.2.2.2.2.2.2.2.2.2.2.2.2.2.2.2.2.2.2.2.1, RR.2.2.2.2.2.2.2.2.2.2.2.2.2.2.2.2.2.2.2.2.2.2.2.2.2.2.2.2.2.2.2.2.2.1, RR.2.2.2.2.2.2.2.2.2.2.2.2.2.2.2.2.2.2.2.2.2.2.2.2.2.2.2.2.2.2.2.2.2.2.1, RR.2.2.2.2.2.2.2.2.2.2.2.2.2.2.2.2.2.2.2.2.2.2.2.2.2.2.2.2.2.2.2.2.2.2.2.1) pk cz lh lp se md RR.2.2.2.2.2.2.2.2.2.2.2.2.2.2.2.2.2.2.2.2.2.2.2.2.2.2.2.2.2.2.2.2.2.2.2.2) := by rw [er]; exact hD
    refine lv_goto (tgt := 15) hx hb dL_answers_9 (by decide) ?_
    refine lv_iconst (v := (0 : Int32)) hx hb dL_answers_15 (by decide) ?_
    exact W.iret (v := (0 : Int32)) hx hb hr (fun t ht hW => ⟨⟨(0 : Int32), RR.2, rfl, ⟨rfl, rfl⟩, by rw [ht]; exact hP9, va_K.moved hW.alike hK, hD9⟩, hS.F ht⟩) hS.2.2 dL_answers_16
