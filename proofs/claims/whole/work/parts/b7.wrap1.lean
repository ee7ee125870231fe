/-! the law's own methods -/
set_option maxHeartbeats 4000000 in
set_option maxRecDepth 100000 in
theorem mL_addTable (l : Launch) (G : va_G) (tt : Nat → ClassId) (sa : Nat → Nat) (hlt : l.stackTraces = false) (sz : Nat) (K : Nat) (a : Nat → Nat) (b : Nat → Nat → Nat) (d : Nat → Nat → Nat → Nat) (wd : Nat → Int32) (fa : Nat → Int64) (od hd : Nat → Int32) (qc : Nat → Nat → Int32) (qs : Nat → Int32) (bc : Nat → Nat → Int32) (bs : Nat → Int32) (tl rl : Int32) (H : zH12) (q : zR13) (w fr : Nat → Int64) (tr g re fi : Nat → Int32) (ro im : Int32) (r : zR15) (pk : Int32) (cz : Nat → Int32) (lh : Int32) (lp : Int64) (se : Nat → Int32) (md : Nat → Int64) (ff : Int32) (p1 : Int32) (ao : Nat) (vo : Nat → Int64) (RR : (Nat ⊕ Int32) × (Nat → Int32) × Int32 × (Nat → Nat → Int32) × (Nat → Nat → Int64) × (Nat → Nat → Int32) × (Nat → Nat → Int32) × (Nat → Nat → Nat → Int32) × (Nat → Nat → Int32) × (Nat → Nat → Nat → Int32) × (Nat → Nat → Int32) × (Nat → Int32) × (Nat → Int32) × Int32 × Int32 × Int32 × Int32) (hF : fX11_addTable K fa od hd qc qs bc bs rl p1 wd tl H.1 H.2.1 H.2.2.1 H.2.2.2.1 H.2.2.2.2.1 H.2.2.2.2.2.1 H.2.2.2.2.2.2.1 H.2.2.2.2.2.2.2.1 H.2.2.2.2.2.2.2.2.1 H.2.2.2.2.2.2.2.2.2.1 H.2.2.2.2.2.2.2.2.2.2.1 H.2.2.2.2.2.2.2.2.2.2.2 im ff = some RR) (bb : Int32 × Int32) (hA : zAgT RR.1 bb) : Met l yL_addTable wsL_addTable ({ frames := 7, cells := 1, slots := 6, locals := 128 } : Room) (zPreL G (zTy tt) sa [.ref (a 0), .int p1, .ref ao] sz ((ao, zoc tt vo) :: wL tt a b d wd fa od hd qc qs bc bs tl rl H q w fr tr g re fi ro im r pk cz lh lp se md ff)) (va_Qi (fun (r : Int32) (u : (Nat → Int32) × Int32 × (Nat → Nat → Int32) × (Nat → Nat → Int64) × (Nat → Nat → Int32) × (Nat → Nat → Int32) × (Nat → Nat → Nat → Int32) × (Nat → Nat → Int32) × (Nat → Nat → Nat → Int32) × (Nat → Nat → Int32) × (Nat → Int32) × (Nat → Int32) × Int32 × Int32 × Int32 × Int32) => r = bb.2 ∧ u = RR.2) (zAt G (zTy tt) (va_A ((ao, zoc tt vo) :: wL tt a b d wd fa od hd qc qs bc bs tl rl H q w fr tr g re fi ro im r pk cz lh lp se md ff) sz) (fun u : (Nat → Int32) × Int32 × (Nat → Nat → Int32) × (Nat → Nat → Int64) × (Nat → Nat → Int32) × (Nat → Nat → Int32) × (Nat → Nat → Nat → Int32) × (Nat → Nat → Int32) × (Nat → Nat → Nat → Int32) × (Nat → Nat → Int32) × (Nat → Int32) × (Nat → Int32) × Int32 × Int32 × Int32 × Int32 => (ao, zoc tt (zout Int32.toInt64 vo RR.1)) :: wL tt a b d u.1 fa od hd qc qs bc bs u.2.1 rl (u.2.2.1, u.2.2.2.1, u.2.2.2.2.1, u.2.2.2.2.2.1, u.2.2.2.2.2.2.1, u.2.2.2.2.2.2.2.1, u.2.2.2.2.2.2.2.2.1, u.2.2.2.2.2.2.2.2.2.1, u.2.2.2.2.2.2.2.2.2.2.1, u.2.2.2.2.2.2.2.2.2.2.2.1, u.2.2.2.2.2.2.2.2.2.2.2.2.1, u.2.2.2.2.2.2.2.2.2.2.2.2.2.1) q w fr tr g re fi ro u.2.2.2.2.2.2.2.2.2.2.2.2.2.2.1 r pk cz lh lp se md u.2.2.2.2.2.2.2.2.2.2.2.2.2.2.2)) (va_A ((ao, zoc tt vo) :: wL tt a b d wd fa od hd qc qs bc bs tl rl H q w fr tr g re fi ro im r pk cz lh lp se md ff) sz)) 1 6 (va_A ((ao, zoc tt vo) :: wL tt a b d wd fa od hd qc qs bc bs tl rl H q w fr tr g re fi ro im r pk cz lh lp se md ff) sz) := by
  refine va_MetW (cc := cL_addTable) (maxL := 4) (ret := (some .int)) (hh := [(0, 9, 12, 13), (0, 9, 15, 15)]) (by decide +kernel) rfl ?_
  intro p e s m args below meth c s₁ B hml hv
  obtain ⟨⟨rfl, hsz, hP, hK, hD0, hN, hX⟩, hL⟩ := hv
  have hx := B.exec
  have hb := B.bytes
  have hr := B.returns
  have hts := atoms_spec (ws := wsL_addTable) B.pre
  have hown : s.vm.findClass RL = some m.cls := findClass_of_methodNamed B.named
  have hlocks := B.notSynchronized
  have htab : c.exceptionTable.toList = tableOf [(0, 9, 12, 13), (0, 9, 15, 15)] := vx_table (x := yL_addTable) B (hts _ List.mem_cons_self)
  subst hsz
  have hD := hD0.self (sz := s.heap.size)
  generalize hAe : va_A ((ao, zoc tt vo) :: wL tt a b d wd fa od hd qc qs bc bs tl rl H q w fr tr g re fi ro im r pk cz lh lp se md ff) s.heap.size = A at hD hX ⊢
  have hA9 : ∀ q : Nat, s.heap.size ≤ q → A q := fun q h => by rw [← hAe]; exact Or.inr h
  have hl := lv_entry ([.ref (a 0), .int p1, .ref ao]) (n := 4) (Nat.le_of_ble_eq_true rfl)
  rw [lg_entry_eq]
  generalize (lg_sl ([.ref (a 0), .int p1, .ref ao]) ++ List.replicate (4 - (lg_sl ([.ref (a 0), .int p1, .ref ao])).length) Slot.unset).toArray = ls at hl ⊢
  have hl : lv_has ls 4 [(0, .ref (a 0)), (1, .int p1), (2, .ref ao)] := hl
  obtain ⟨H0, hHe⟩ : ∃ H : Heap, s.heap = H := ⟨_, rfl⟩
  have hS : va_S A s.heap H0 [] := by rw [← hHe]; exact va_S.rf
  rw [hHe] at hP ⊢
  have hP := zP_perm (List.perm_append_comm (l₁ := [(ao, zoc tt vo)]) (l₂ := wL tt a b d wd fa od hd qc qs bc bs tl rl H q w fr tr g re fi ro im r pk cz lh lp se md ff)) hP
  have hD := zD_perm (List.perm_append_comm (l₁ := [(ao, zoc tt vo)]) (l₂ := wL tt a b d wd fa od hd qc qs bc bs tl rl H q w fr tr g re fi ro im r pk cz lh lp se md ff)) hD
  refine lv_aload_n hx hb dL_addTable_0 rfl (lv_at hl 2 rfl) ?_
  refine lv_iconst (v := (0 : Int32)) hx hb dL_addTable_1 (by decide) ?_
  refine lv_aload_n hx hb dL_addTable_2 rfl (lv_at hl 0 rfl) ?_
  refine lv_iload_n hx hb dL_addTable_3 rfl (lv_at hl 1 rfl) ?_
  refine z_callXi (wc := wL tt a b d wd fa od hd qc qs bc bs tl rl H q w fr tr g re fi ro im r pk cz lh lp se md ff) (wr := [(ao, zoc tt vo)]) (As := [.int p1]) (rest := [.int (0 : Int32), .ref ao]) (ci := 10) ⟨hx, hb, hml, hown, hts⟩ hK hN hX hP hD hS hA9 (nX11_addTable l G tt sa hlt H0.size K a b d wd fa od hd qc qs bc bs tl rl H q w fr tr g re fi ro im r pk cz lh lp se md ff p1 RR hF) (cwV 1 hts gL_addTable_X11_addTable rfl rfl rfl (by decide +kernel) ⟨Nat.le_of_ble_eq_true rfl, Nat.le_of_ble_eq_true rfl⟩) rfl rfl rfl hl.1 rfl (Nat.le_of_ble_eq_true rfl) dL_addTable_4 ⟨Nat.le_of_ble_eq_true rfl, Nat.le_of_ble_eq_true rfl⟩ (fun k ce q9 H0 locs hk hP hD hS hce hcv hcl => ?_) (fun rr u H0 locs hw hP hD hS => ?_)
  · rcases hA with ⟨k9, ek, hk9, rfl⟩ | ⟨v9, ev, rfl⟩
    · obtain rfl : k9 = k := Sum.inl.inj (ek.symm.trans hk)
      rcases hk9 with rfl | rfl
      · have hz : zout Int32.toInt64 vo RR.1 = vo := by rw [hk]; rfl
        refine vx_catch (name := zEx 1) hown [] ⟨0, 9, 12, 13⟩ [⟨0, 9, 15, 15⟩] (htab.trans rfl) (fun z hz => by
            exact absurd hz List.not_mem_nil) (by decide) (by decide) (hts (.classLink RL 13 (zEx 1)) (List.mem_of_getElem? (i := 1) rfl)) (zX_cast hX 1 (by decide)) hce hcv hcl ?_
        refine lv_astore_n (lv' := [(3, .ref q9), (0, .ref (a 0)), (1, .int p1), (2, .ref ao)]) hx hb dL_addTable_12 rfl hl (by decide) rfl (fun ls hl => ?_)
        refine lv_iconst (v := (1 : Int32)) hx hb dL_addTable_13 (by decide) ?_
        exact W.iret (v := (1 : Int32)) hx hb hr (fun t ht hW => ⟨⟨(1 : Int32), RR.2, rfl, ⟨rfl, rfl⟩, by rw [ht, hz]; exact hP, va_K.moved hW.alike hK, by rw [hz]; exact hD⟩, hS.F ht⟩) hS.2.2 dL_addTable_14
      · have hz : zout Int32.toInt64 vo RR.1 = vo := by rw [hk]; rfl
        refine vx_catch (name := zEx 2) hown [⟨0, 9, 12, 13⟩] ⟨0, 9, 15, 15⟩ [] (htab.trans rfl) (fun z hz => by
            rcases List.mem_cons.mp hz with rfl | hz
            · exact Or.inr ⟨by decide, zEx 1, (hts (.classLink RL 13 (zEx 1)) (List.mem_of_getElem? (i := 1) rfl)), hL 2 1 (by decide) (by decide) (by decide)⟩
            exact absurd hz List.not_mem_nil) (by decide) (by decide) (hts (.classLink RL 15 (zEx 2)) (List.mem_of_getElem? (i := 2) rfl)) (zX_cast hX 2 (by decide)) hce hcv hcl ?_
        refine lv_astore_n (lv' := [(3, .ref q9), (0, .ref (a 0)), (1, .int p1), (2, .ref ao)]) hx hb dL_addTable_15 rfl hl (by decide) rfl (fun ls hl => ?_)
        refine lv_iconst (v := (2 : Int32)) hx hb dL_addTable_16 (by decide) ?_
        exact W.iret (v := (2 : Int32)) hx hb hr (fun t ht hW => ⟨⟨(2 : Int32), RR.2, rfl, ⟨rfl, rfl⟩, by rw [ht, hz]; exact hP, va_K.moved hW.alike hK, by rw [hz]; exact hD⟩, hS.F ht⟩) hS.2.2 dL_addTable_17
    · cases hk.symm.trans ev
  · obtain ⟨er, hu⟩ := hw
    subst hu
    rcases hA with ⟨k9, ek, hk9, rfl⟩ | ⟨v9, ev, rfl⟩
    · cases er.symm.trans ek
    obtain rfl : v9 = rr := Sum.inr.inj (ev.symm.trans er)
    refine lv_i2l hx hb dL_addTable_7 rfl ?_
    refine va_last hx hb hK hP hD hS 0 1 rfl rfl (inB_vp (by decide)) dL_addTable_8 (fun H0 locs hP hD hS => ?_)
    have hP9 : va_P G vwCl ((ao, zoc tt (zout Int32.toInt64 vo RR.1)) :: wL tt a b d RR.2.1 fa od hd qc qs bc bs RR.2.2.1 rl (RR.2.2.2.1, RR.2.2.2.2.1, RR.2.2.2.2.2.1, RR.2.2.2.2.2.2.1, RR.2.2.2.2.2.2.2.1, RR.2.2.2.2.2.2.2.2.1, RR.2.2.2.2.2.2.2.2.2.1, RR.2.2.2.2.2.2.2.2.2.2.1, RR.2.2.2.2.2.2.2.2.2.2.2.1, RR.2.2.2.2.2.2.2.2.2.2.2.2.1, RR.2.2.2.2.2.2.2.2.2.2.2.2.2.1, RR.2.2.2.2.2.2.2.2.2.2.2.2.2.2.1) q w fr tr g re fi ro RR.2.2.2.2.2.2.2.2.2.2.2.2.2.2.2.1 r pk cz lh lp se md RR.2.2.2.2.2.2.2.2.2.2.2.2.2.2.2.2) H0 := by rw [er]; exact hP
    have hD9 : va_D A ((ao, zoc tt (zout Int32.toInt64 vo RR.1)) :: wL tt a b d RR.2.1 fa od hd qc qs bc bs RR.2.2.1 rl (RR.2.2.2.1, RR.2.2.2.2.1, RR.2.2.2.2.2.1, RR.2.2.2.2.2.2.1, RR.2.2.2.2.2.2.2.1, RR.2.2.2.2.2.2.2.2.1, RR.2.2.2.2.2.2.2.2.2.1, RR.2.2.2.2.2.2.2.2.2.2.1, RR.2.2.2.2.2.2.2.2.2.2.2.1, RR.2.2.2.2.2.2.2.2.2.2.2.2.1, RR.2.2.2.2.2.2.2.2.2.2.2.2.2.1, RR.2.2.2.2.2.2.2.2.2.2.2.2.2.2.1) q w fr tr g re fi ro RR.2.2.2.2.2.2.2.2.2.2.2.2.2.2.2.1 r pk cz lh lp se md RR.2.2.2.2.2.2.2.2.2.2.2.2.2.2.2.2) := by rw [er]; exact hD
    refine lv_goto (tgt := 18) hx hb dL_addTable_9 (by decide) ?_
    refine lv_iconst (v := (0 : Int32)) hx hb dL_addTable_18 (by decide) ?_
    exact W.iret (v := (0 : Int32)) hx hb hr (fun t ht hW => ⟨⟨(0 : Int32), RR.2, rfl, ⟨rfl, rfl⟩, by rw [ht]; exact hP9, va_K.moved hW.alike hK, hD9⟩, hS.F ht⟩) hS.2.2 dL_addTable_19

set_option maxHeartbeats 4000000 in
set_option maxRecDepth 100000 in
theorem mL_addFact (l : Launch) (G : va_G) (tt : Nat → ClassId) (sa : Nat → Nat) (hlt : l.stackTraces = false) (sz : Nat) (K : Nat) (a : Nat → Nat) (b : Nat → Nat → Nat) (d : Nat → Nat → Nat → Nat) (wd : Nat → Int32) (fa : Nat → Int64) (od hd : Nat → Int32) (qc : Nat → Nat → Int32) (qs : Nat → Int32) (bc : Nat → Nat → Int32) (bs : Nat → Int32) (tl rl : Int32) (H : zH12) (q : zR13) (w fr : Nat → Int64) (tr g re fi : Nat → Int32) (ro im : Int32) (r : zR15) (pk : Int32) (cz : Nat → Int32) (lh : Int32) (lp : Int64) (se : Nat → Int32) (md : Nat → Int64) (ff : Int32) (p1 : Int32) (p2 : Int32) (p3 : Int32) (p4 : Int32) (ao : Nat) (vo : Nat → Int64) (RR : (Nat ⊕ Int32) × (Nat → Int64) × (Nat → Nat → Int32) × (Nat → Nat → Int64) × (Nat → Nat → Int32) × (Nat → Nat → Int32) × (Nat → Nat → Nat → Int32) × (Nat → Nat → Int32) × (Nat → Nat → Nat → Int32) × (Nat → Nat → Int32) × (Nat → Int32) × (Nat → Int32) × Int32 × Int32 × Int32 × Int32) (hF : fX11_addFact K wd od hd qc qs bc bs tl rl p1 p2 p3 p4 fa H.1 H.2.1 H.2.2.1 H.2.2.2.1 H.2.2.2.2.1 H.2.2.2.2.2.1 H.2.2.2.2.2.2.1 H.2.2.2.2.2.2.2.1 H.2.2.2.2.2.2.2.2.1 H.2.2.2.2.2.2.2.2.2.1 H.2.2.2.2.2.2.2.2.2.2.1 H.2.2.2.2.2.2.2.2.2.2.2 im ff = some RR) (bb : Int32 × Int32) (hA : zAg [0, 1, 2] 0 RR.1 bb) : Met l yL_addFact wsL_addFact ({ frames := 8, cells := 3, slots := 18, locals := 139 } : Room) (zPreL G (zTy tt) sa [.ref (a 0), .int p1, .int p2, .int p3, .int p4, .ref ao] sz ((ao, zoc tt vo) :: wL tt a b d wd fa od hd qc qs bc bs tl rl H q w fr tr g re fi ro im r pk cz lh lp se md ff)) (va_Qi (fun (r : Int32) (u : (Nat → Int64) × (Nat → Nat → Int32) × (Nat → Nat → Int64) × (Nat → Nat → Int32) × (Nat → Nat → Int32) × (Nat → Nat → Nat → Int32) × (Nat → Nat → Int32) × (Nat → Nat → Nat → Int32) × (Nat → Nat → Int32) × (Nat → Int32) × (Nat → Int32) × Int32 × Int32 × Int32 × Int32) => r = bb.2 ∧ u = RR.2) (zAt G (zTy tt) (va_A ((ao, zoc tt vo) :: wL tt a b d wd fa od hd qc qs bc bs tl rl H q w fr tr g re fi ro im r pk cz lh lp se md ff) sz) (fun u : (Nat → Int64) × (Nat → Nat → Int32) × (Nat → Nat → Int64) × (Nat → Nat → Int32) × (Nat → Nat → Int32) × (Nat → Nat → Nat → Int32) × (Nat → Nat → Int32) × (Nat → Nat → Nat → Int32) × (Nat → Nat → Int32) × (Nat → Int32) × (Nat → Int32) × Int32 × Int32 × Int32 × Int32 => (ao, zoc tt (zout Int32.toInt64 vo RR.1)) :: wL tt a b d wd u.1 od hd qc qs bc bs tl rl (u.2.1, u.2.2.1, u.2.2.2.1, u.2.2.2.2.1, u.2.2.2.2.2.1, u.2.2.2.2.2.2.1, u.2.2.2.2.2.2.2.1, u.2.2.2.2.2.2.2.2.1, u.2.2.2.2.2.2.2.2.2.1, u.2.2.2.2.2.2.2.2.2.2.1, u.2.2.2.2.2.2.2.2.2.2.2.1, u.2.2.2.2.2.2.2.2.2.2.2.2.1) q w fr tr g re fi ro u.2.2.2.2.2.2.2.2.2.2.2.2.2.1 r pk cz lh lp se md u.2.2.2.2.2.2.2.2.2.2.2.2.2.2)) (va_A ((ao, zoc tt vo) :: wL tt a b d wd fa od hd qc qs bc bs tl rl H q w fr tr g re fi ro im r pk cz lh lp se md ff) sz)) 3 18 (va_A ((ao, zoc tt vo) :: wL tt a b d wd fa od hd qc qs bc bs tl rl H q w fr tr g re fi ro im r pk cz lh lp se md ff) sz) := by
  refine va_MetW (cc := cL_addFact) (maxL := 7) (ret := (some .int)) (hh := [(0, 14, 17, 21), (0, 14, 21, 13), (0, 14, 25, 15)]) (by decide +kernel) rfl ?_
  intro p e s m args below meth c s₁ B hml hv
  obtain ⟨⟨rfl, hsz, hP, hK, hD0, hN, hX⟩, hL⟩ := hv
  have hx := B.exec
  have hb := B.bytes
  have hr := B.returns
  have hts := atoms_spec (ws := wsL_addFact) B.pre
  have hown : s.vm.findClass RL = some m.cls := findClass_of_methodNamed B.named
  have hlocks := B.notSynchronized
  have htab : c.exceptionTable.toList = tableOf [(0, 14, 17, 21), (0, 14, 21, 13), (0, 14, 25, 15)] := vx_table (x := yL_addFact) B (hts _ List.mem_cons_self)
  subst hsz
  have hD := hD0.self (sz := s.heap.size)
  generalize hAe : va_A ((ao, zoc tt vo) :: wL tt a b d wd fa od hd qc qs bc bs tl rl H q w fr tr g re fi ro im r pk cz lh lp se md ff) s.heap.size = A at hD hX ⊢
  have hA9 : ∀ q : Nat, s.heap.size ≤ q → A q := fun q h => by rw [← hAe]; exact Or.inr h
  have hl := lv_entry ([.ref (a 0), .int p1, .int p2, .int p3, .int p4, .ref ao]) (n := 7) (Nat.le_of_ble_eq_true rfl)
  rw [lg_entry_eq]
  generalize (lg_sl ([.ref (a 0), .int p1, .int p2, .int p3, .int p4, .ref ao]) ++ List.replicate (7 - (lg_sl ([.ref (a 0), .int p1, .int p2, .int p3, .int p4, .ref ao])).length) Slot.unset).toArray = ls at hl ⊢
  have hl : lv_has ls 7 [(0, .ref (a 0)), (1, .int p1), (2, .int p2), (3, .int p3), (4, .int p4), (5, .ref ao)] := hl
  obtain ⟨H0, hHe⟩ : ∃ H : Heap, s.heap = H := ⟨_, rfl⟩
  have hS : va_S A s.heap H0 [] := by rw [← hHe]; exact va_S.rf
  rw [hHe] at hP ⊢
  have hP := zP_perm (List.perm_append_comm (l₁ := [(ao, zoc tt vo)]) (l₂ := wL tt a b d wd fa od hd qc qs bc bs tl rl H q w fr tr g re fi ro im r pk cz lh lp se md ff)) hP
  have hD := zD_perm (List.perm_append_comm (l₁ := [(ao, zoc tt vo)]) (l₂ := wL tt a b d wd fa od hd qc qs bc bs tl rl H q w fr tr g re fi ro im r pk cz lh lp se md ff)) hD
  refine lv_aload hx hb dL_addFact_0 (lv_at hl 5 rfl) ?_
  refine lv_iconst (v := (0 : Int32)) hx hb dL_addFact_2 (by decide) ?_
  refine lv_aload_n hx hb dL_addFact_3 rfl (lv_at hl 0 rfl) ?_
  refine lv_iload_n hx hb dL_addFact_4 rfl (lv_at hl 1 rfl) ?_
  refine lv_iload_n hx hb dL_addFact_5 rfl (lv_at hl 2 rfl) ?_
  refine lv_iload_n hx hb dL_addFact_6 rfl (lv_at hl 3 rfl) ?_
  refine lv_iload hx hb dL_addFact_7 (lv_at hl 4 rfl) ?_
  refine z_callXi (wc := wL tt a b d wd fa od hd qc qs bc bs tl rl H q w fr tr g re fi ro im r pk cz lh lp se md ff) (wr := [(ao, zoc tt vo)]) (As := [.int p1, .int p2, .int p3, .int p4]) (rest := [.int (0 : Int32), .ref ao]) (ci := 10) ⟨hx, hb, hml, hown, hts⟩ hK hN hX hP hD hS hA9 (nX11_addFact l G tt sa hlt H0.size K a b d wd fa od hd qc qs bc bs tl rl H q w fr tr g re fi ro im r pk cz lh lp se md ff p1 p2 p3 p4 RR hF) (cwV 4 hts gL_addFact_X11_addFact rfl rfl rfl (by decide +kernel) ⟨Nat.le_of_ble_eq_true rfl, Nat.le_of_ble_eq_true rfl⟩) rfl rfl rfl hl.1 rfl (Nat.le_of_ble_eq_true rfl) dL_addFact_9 ⟨Nat.le_of_ble_eq_true rfl, Nat.le_of_ble_eq_true rfl⟩ (fun k ce q9 H0 locs hk hP hD hS hce hcv hcl => ?_) (fun rr u H0 locs hw hP hD hS => ?_)
  · rcases hA with ⟨k9, hk9, ek, rfl⟩ | ⟨v9, ev, rfl⟩
    · obtain rfl : k9 = k := Sum.inl.inj (ek.symm.trans hk)
      have hk9 : k9 = 0 ∨ k9 = 1 ∨ k9 = 2 := by simpa using hk9
      rcases hk9 with rfl | rfl | rfl
      · have hz : zout Int32.toInt64 vo RR.1 = vo := by rw [hk]; rfl
        refine vx_catch (name := zEx 0) hown [] ⟨0, 14, 17, 21⟩ [⟨0, 14, 21, 13⟩, ⟨0, 14, 25, 15⟩] (htab.trans rfl) (fun z hz => by
            exact absurd hz List.not_mem_nil) (by decide) (by decide) (hts (.classLink RL 21 (zEx 0)) (List.mem_of_getElem? (i := 1) rfl)) (zX_cast hX 0 (by decide)) hce hcv hcl ?_
        refine lv_astore (lv' := [(6, .ref q9), (0, .ref (a 0)), (1, .int p1), (2, .int p2), (3, .int p3), (4, .int p4), (5, .ref ao)]) hx hb dL_addFact_17 hl (by decide) rfl (fun ls hl => ?_)
        refine lv_iconst (v := (1 : Int32)) hx hb dL_addFact_19 (by decide) ?_
        exact W.iret (v := (1 : Int32)) hx hb hr (fun t ht hW => ⟨⟨(1 : Int32), RR.2, rfl, ⟨rfl, rfl⟩, by rw [ht, hz]; exact hP, va_K.moved hW.alike hK, by rw [hz]; exact hD⟩, hS.F ht⟩) hS.2.2 dL_addFact_20
      · have hz : zout Int32.toInt64 vo RR.1 = vo := by rw [hk]; rfl
        refine vx_catch (name := zEx 1) hown [⟨0, 14, 17, 21⟩] ⟨0, 14, 21, 13⟩ [⟨0, 14, 25, 15⟩] (htab.trans rfl) (fun z hz => by
            rcases List.mem_cons.mp hz with rfl | hz
            · exact Or.inr ⟨by decide, zEx 0, (hts (.classLink RL 21 (zEx 0)) (List.mem_of_getElem? (i := 1) rfl)), hL 1 0 (by decide) (by decide) (by decide)⟩
            exact absurd hz List.not_mem_nil) (by decide) (by decide) (hts (.classLink RL 13 (zEx 1)) (List.mem_of_getElem? (i := 2) rfl)) (zX_cast hX 1 (by decide)) hce hcv hcl ?_
        refine lv_astore (lv' := [(6, .ref q9), (0, .ref (a 0)), (1, .int p1), (2, .int p2), (3, .int p3), (4, .int p4), (5, .ref ao)]) hx hb dL_addFact_21 hl (by decide) rfl (fun ls hl => ?_)
        refine lv_iconst (v := (2 : Int32)) hx hb dL_addFact_23 (by decide) ?_
        exact W.iret (v := (2 : Int32)) hx hb hr (fun t ht hW => ⟨⟨(2 : Int32), RR.2, rfl, ⟨rfl, rfl⟩, by rw [ht, hz]; exact hP, va_K.moved hW.alike hK, by rw [hz]; exact hD⟩, hS.F ht⟩) hS.2.2 dL_addFact_24
      · have hz : zout Int32.toInt64 vo RR.1 = vo := by rw [hk]; rfl
        refine vx_catch (name := zEx 2) hown [⟨0, 14, 17, 21⟩, ⟨0, 14, 21, 13⟩] ⟨0, 14, 25, 15⟩ [] (htab.trans rfl) (fun z hz => by
            rcases List.mem_cons.mp hz with rfl | hz
            · exact Or.inr ⟨by decide, zEx 0, (hts (.classLink RL 21 (zEx 0)) (List.mem_of_getElem? (i := 1) rfl)), hL 2 0 (by decide) (by decide) (by decide)⟩
            rcases List.mem_cons.mp hz with rfl | hz
            · exact Or.inr ⟨by decide, zEx 1, (hts (.classLink RL 13 (zEx 1)) (List.mem_of_getElem? (i := 2) rfl)), hL 2 1 (by decide) (by decide) (by decide)⟩
            exact absurd hz List.not_mem_nil) (by decide) (by decide) (hts (.classLink RL 15 (zEx 2)) (List.mem_of_getElem? (i := 3) rfl)) (zX_cast hX 2 (by decide)) hce hcv hcl ?_
        refine lv_astore (lv' := [(6, .ref q9), (0, .ref (a 0)), (1, .int p1), (2, .int p2), (3, .int p3), (4, .int p4), (5, .ref ao)]) hx hb dL_addFact_25 hl (by decide) rfl (fun ls hl => ?_)
        refine lv_iconst (v := (3 : Int32)) hx hb dL_addFact_27 (by decide) ?_
        exact W.iret (v := (3 : Int32)) hx hb hr (fun t ht hW => ⟨⟨(3 : Int32), RR.2, rfl, ⟨rfl, rfl⟩, by rw [ht, hz]; exact hP, va_K.moved hW.alike hK, by rw [hz]; exact hD⟩, hS.F ht⟩) hS.2.2 dL_addFact_28
    · cases hk.symm.trans ev
  · obtain ⟨er, hu⟩ := hw
    subst hu
    rcases hA with ⟨k9, hk9, ek, rfl⟩ | ⟨v9, ev, rfl⟩
    · cases er.symm.trans ek
    obtain rfl : v9 = rr := Sum.inr.inj (ev.symm.trans er)
    refine lv_i2l hx hb dL_addFact_12 rfl ?_
    refine va_last hx hb hK hP hD hS 0 1 rfl rfl (inB_vp (by decide)) dL_addFact_13 (fun H0 locs hP hD hS => ?_)
    have hP9 : va_P G vwCl ((ao, zoc tt (zout Int32.toInt64 vo RR.1)) :: wL tt a b d wd RR.2.1 od hd qc qs bc bs tl rl (RR.2.2.1, RR.2.2.2.1, RR.2.2.2.2.1, RR.2.2.2.2.2.1, RR.2.2.2.2.2.2.1, RR.2.2.2.2.2.2.2.1, RR.2.2.2.2.2.2.2.2.1, RR.2.2.2.2.2.2.2.2.2.1, RR.2.2.2.2.2.2.2.2.2.2.1, RR.2.2.2.2.2.2.2.2.2.2.2.1, RR.2.2.2.2.2.2.2.2.2.2.2.2.1, RR.2.2.2.2.2.2.2.2.2.2.2.2.2.1) q w fr tr g re fi ro RR.2.2.2.2.2.2.2.2.2.2.2.2.2.2.1 r pk cz lh lp se md RR.2.2.2.2.2.2.2.2.2.2.2.2.2.2.2) H0 := by rw [er]; exact hP
    have hD9 : va_D A ((ao, zoc tt (zout Int32.toInt64 vo RR.1)) :: wL tt a b d wd RR.2.1 od hd qc qs bc bs tl rl (RR.2.2.1, RR.2.2.2.1, RR.2.2.2.2.1, RR.2.2.2.2.2.1, RR.2.2.2.2.2.2.1, RR.2.2.2.2.2.2.2.1, RR.2.2.2.2.2.2.2.2.1, RR.2.2.2.2.2.2.2.2.2.1, RR.2.2.2.2.2.2.2.2.2.2.1, RR.2.2.2.2.2.2.2.2.2.2.2.1, RR.2.2.2.2.2.2.2.2.2.2.2.2.1, RR.2.2.2.2.2.2.2.2.2.2.2.2.2.1) q w fr tr g re fi ro RR.2.2.2.2.2.2.2.2.2.2.2.2.2.2.1 r pk cz lh lp se md RR.2.2.2.2.2.2.2.2.2.2.2.2.2.2.2) := by rw [er]; exact hD
    refine lv_goto (tgt := 29) hx hb dL_addFact_14 (by decide) ?_
    refine lv_iconst (v := (0 : Int32)) hx hb dL_addFact_29 (by decide) ?_
    exact W.iret (v := (0 : Int32)) hx hb hr (fun t ht hW => ⟨⟨(0 : Int32), RR.2, rfl, ⟨rfl, rfl⟩, by rw [ht]; exact hP9, va_K.moved hW.alike hK, hD9⟩, hS.F ht⟩) hS.2.2 dL_addFact_30

set_option maxHeartbeats 4000000 in
set_option maxRecDepth 100000 in
theorem mL_removeFact (l : Launch) (G : va_G) (tt : Nat → ClassId) (sa : Nat → Nat) (hlt : l.stackTraces = false) (sz : Nat) (K : Nat) (a : Nat → Nat) (b : Nat → Nat → Nat) (d : Nat → Nat → Nat → Nat) (wd : Nat → Int32) (fa : Nat → Int64) (od hd : Nat → Int32) (qc : Nat → Nat → Int32) (qs : Nat → Int32) (bc : Nat → Nat → Int32) (bs : Nat → Int32) (tl rl : Int32) (H : zH12) (q : zR13) (w fr : Nat → Int64) (tr g re fi : Nat → Int32) (ro im : Int32) (r : zR15) (pk : Int32) (cz : Nat → Int32) (lh : Int32) (lp : Int64) (se : Nat → Int32) (md : Nat → Int64) (ff : Int32) (p1 : Int32) (p2 : Int32) (p3 : Int32) (p4 : Int32) (ao : Nat) (vo : Nat → Int64) (RR : (Nat ⊕ Int32) × (Nat → Int64) × (Nat → Nat → Int32) × (Nat → Nat → Int64) × (Nat → Nat → Int32) × (Nat → Nat → Int32) × (Nat → Nat → Nat → Int32) × (Nat → Nat → Int32) × (Nat → Nat → Nat → Int32) × (Nat → Nat → Int32) × (Nat → Int32) × (Nat → Int32) × Int32 × Int32 × Int32 × Int32) (hF : fX11_removeFact K wd od hd qc qs bc bs tl rl p1 p2 p3 p4 fa H.1 H.2.1 H.2.2.1 H.2.2.2.1 H.2.2.2.2.1 H.2.2.2.2.2.1 H.2.2.2.2.2.2.1 H.2.2.2.2.2.2.2.1 H.2.2.2.2.2.2.2.2.1 H.2.2.2.2.2.2.2.2.2.1 H.2.2.2.2.2.2.2.2.2.2.1 H.2.2.2.2.2.2.2.2.2.2.2 im ff = some RR) (bb : Int32 × Int32) (hA : zAg [0, 1, 3] 0 RR.1 bb) : Met l yL_removeFact wsL_removeFact ({ frames := 8, cells := 3, slots := 18, locals := 139 } : Room) (zPreL G (zTy tt) sa [.ref (a 0), .int p1, .int p2, .int p3, .int p4, .ref ao] sz ((ao, zoc tt vo) :: wL tt a b d wd fa od hd qc qs bc bs tl rl H q w fr tr g re fi ro im r pk cz lh lp se md ff)) (va_Qi (fun (r : Int32) (u : (Nat → Int64) × (Nat → Nat → Int32) × (Nat → Nat → Int64) × (Nat → Nat → Int32) × (Nat → Nat → Int32) × (Nat → Nat → Nat → Int32) × (Nat → Nat → Int32) × (Nat → Nat → Nat → Int32) × (Nat → Nat → Int32) × (Nat → Int32) × (Nat → Int32) × Int32 × Int32 × Int32 × Int32) => r = bb.2 ∧ u = RR.2) (zAt G (zTy tt) (va_A ((ao, zoc tt vo) :: wL tt a b d wd fa od hd qc qs bc bs tl rl H q w fr tr g re fi ro im r pk cz lh lp se md ff) sz) (fun u : (Nat → Int64) × (Nat → Nat → Int32) × (Nat → Nat → Int64) × (Nat → Nat → Int32) × (Nat → Nat → Int32) × (Nat → Nat → Nat → Int32) × (Nat → Nat → Int32) × (Nat → Nat → Nat → Int32) × (Nat → Nat → Int32) × (Nat → Int32) × (Nat → Int32) × Int32 × Int32 × Int32 × Int32 => (ao, zoc tt (zout Int32.toInt64 vo RR.1)) :: wL tt a b d wd u.1 od hd qc qs bc bs tl rl (u.2.1, u.2.2.1, u.2.2.2.1, u.2.2.2.2.1, u.2.2.2.2.2.1, u.2.2.2.2.2.2.1, u.2.2.2.2.2.2.2.1, u.2.2.2.2.2.2.2.2.1, u.2.2.2.2.2.2.2.2.2.1, u.2.2.2.2.2.2.2.2.2.2.1, u.2.2.2.2.2.2.2.2.2.2.2.1, u.2.2.2.2.2.2.2.2.2.2.2.2.1) q w fr tr g re fi ro u.2.2.2.2.2.2.2.2.2.2.2.2.2.1 r pk cz lh lp se md u.2.2.2.2.2.2.2.2.2.2.2.2.2.2)) (va_A ((ao, zoc tt vo) :: wL tt a b d wd fa od hd qc qs bc bs tl rl H q w fr tr g re fi ro im r pk cz lh lp se md ff) sz)) 3 18 (va_A ((ao, zoc tt vo) :: wL tt a b d wd fa od hd qc qs bc bs tl rl H q w fr tr g re fi ro im r pk cz lh lp se md ff) sz) := by
  refine va_MetW (cc := cL_removeFact) (maxL := 7) (ret := (some .int)) (hh := [(0, 14, 17, 21), (0, 14, 21, 13), (0, 14, 25, 26)]) (by decide +kernel) rfl ?_
  intro p e s m args below meth c s₁ B hml hv
  obtain ⟨⟨rfl, hsz, hP, hK, hD0, hN, hX⟩, hL⟩ := hv
  have hx := B.exec
  have hb := B.bytes
  have hr := B.returns
  have hts := atoms_spec (ws := wsL_removeFact) B.pre
  have hown : s.vm.findClass RL = some m.cls := findClass_of_methodNamed B.named
  have hlocks := B.notSynchronized
  have htab : c.exceptionTable.toList = tableOf [(0, 14, 17, 21), (0, 14, 21, 13), (0, 14, 25, 26)] := vx_table (x := yL_removeFact) B (hts _ List.mem_cons_self)
  subst hsz
  have hD := hD0.self (sz := s.heap.size)
  generalize hAe : va_A ((ao, zoc tt vo) :: wL tt a b d wd fa od hd qc qs bc bs tl rl H q w fr tr g re fi ro im r pk cz lh lp se md ff) s.heap.size = A at hD hX ⊢
  have hA9 : ∀ q : Nat, s.heap.size ≤ q → A q := fun q h => by rw [← hAe]; exact Or.inr h
  have hl := lv_entry ([.ref (a 0), .int p1, .int p2, .int p3, .int p4, .ref ao]) (n := 7) (Nat.le_of_ble_eq_true rfl)
  rw [lg_entry_eq]
  generalize (lg_sl ([.ref (a 0), .int p1, .int p2, .int p3, .int p4, .ref ao]) ++ List.replicate (7 - (lg_sl ([.ref (a 0), .int p1, .int p2, .int p3, .int p4, .ref ao])).length) Slot.unset).toArray = ls at hl ⊢
  have hl : lv_has ls 7 [(0, .ref (a 0)), (1, .int p1), (2, .int p2), (3, .int p3), (4, .int p4), (5, .ref ao)] := hl
  obtain ⟨H0, hHe⟩ : ∃ H : Heap, s.heap = H := ⟨_, rfl⟩
  have hS : va_S A s.heap H0 [] := by rw [← hHe]; exact va_S.rf
  rw [hHe] at hP ⊢
  have hP := zP_perm (List.perm_append_comm (l₁ := [(ao, zoc tt vo)]) (l₂ := wL tt a b d wd fa od hd qc qs bc bs tl rl H q w fr tr g re fi ro im r pk cz lh lp se md ff)) hP
  have hD := zD_perm (List.perm_append_comm (l₁ := [(ao, zoc tt vo)]) (l₂ := wL tt a b d wd fa od hd qc qs bc bs tl rl H q w fr tr g re fi ro im r pk cz lh lp se md ff)) hD
  refine lv_aload hx hb dL_removeFact_0 (lv_at hl 5 rfl) ?_
  refine lv_iconst (v := (0 : Int32)) hx hb dL_removeFact_2 (by decide) ?_
  refine lv_aload_n hx hb dL_removeFact_3 rfl (lv_at hl 0 rfl) ?_
  refine lv_iload_n hx hb dL_removeFact_4 rfl (lv_at hl 1 rfl) ?_
  refine lv_iload_n hx hb dL_removeFact_5 rfl (lv_at hl 2 rfl) ?_
  refine lv_iload_n hx hb dL_removeFact_6 rfl (lv_at hl 3 rfl) ?_
  refine lv_iload hx hb dL_removeFact_7 (lv_at hl 4 rfl) ?_
  refine z_callXi (wc := wL tt a b d wd fa od hd qc qs bc bs tl rl H q w fr tr g re fi ro im r pk cz lh lp se md ff) (wr := [(ao, zoc tt vo)]) (As := [.int p1, .int p2, .int p3, .int p4]) (rest := [.int (0 : Int32), .ref ao]) (ci := 10) ⟨hx, hb, hml, hown, hts⟩ hK hN hX hP hD hS hA9 (nX11_removeFact l G tt sa hlt H0.size K a b d wd fa od hd qc qs bc bs tl rl H q w fr tr g re fi ro im r pk cz lh lp se md ff p1 p2 p3 p4 RR hF) (cwV 4 hts gL_removeFact_X11_removeFact rfl rfl rfl (by decide +kernel) ⟨Nat.le_of_ble_eq_true rfl, Nat.le_of_ble_eq_true rfl⟩) rfl rfl rfl hl.1 rfl (Nat.le_of_ble_eq_true rfl) dL_removeFact_9 ⟨Nat.le_of_ble_eq_true rfl, Nat.le_of_ble_eq_true rfl⟩ (fun k ce q9 H0 locs hk hP hD hS hce hcv hcl => ?_) (fun rr u H0 locs hw hP hD hS => ?_)
  · rcases hA with ⟨k9, hk9, ek, rfl⟩ | ⟨v9, ev, rfl⟩
    · obtain rfl : k9 = k := Sum.inl.inj (ek.symm.trans hk)
      have hk9 : k9 = 0 ∨ k9 = 1 ∨ k9 = 3 := by simpa using hk9
      rcases hk9 with rfl | rfl | rfl
      · have hz : zout Int32.toInt64 vo RR.1 = vo := by rw [hk]; rfl
        refine vx_catch (name := zEx 0) hown [] ⟨0, 14, 17, 21⟩ [⟨0, 14, 21, 13⟩, ⟨0, 14, 25, 26⟩] (htab.trans rfl) (fun z hz => by
            exact absurd hz List.not_mem_nil) (by decide) (by decide) (hts (.classLink RL 21 (zEx 0)) (List.mem_of_getElem? (i := 1) rfl)) (zX_cast hX 0 (by decide)) hce hcv hcl ?_
        refine lv_astore (lv' := [(6, .ref q9), (0, .ref (a 0)), (1, .int p1), (2, .int p2), (3, .int p3), (4, .int p4), (5, .ref ao)]) hx hb dL_removeFact_17 hl (by decide) rfl (fun ls hl => ?_)
        refine lv_iconst (v := (1 : Int32)) hx hb dL_removeFact_19 (by decide) ?_
        exact W.iret (v := (1 : Int32)) hx hb hr (fun t ht hW => ⟨⟨(1 : Int32), RR.2, rfl, ⟨rfl, rfl⟩, by rw [ht, hz]; exact hP, va_K.moved hW.alike hK, by rw [hz]; exact hD⟩, hS.F ht⟩) hS.2.2 dL_removeFact_20
      · have hz : zout Int32.toInt64 vo RR.1 = vo := by rw [hk]; rfl
        refine vx_catch (name := zEx 1) hown [⟨0, 14, 17, 21⟩] ⟨0, 14, 21, 13⟩ [⟨0, 14, 25, 26⟩] (htab.trans rfl) (fun z hz => by
            rcases List.mem_cons.mp hz with rfl | hz
            · exact Or.inr ⟨by decide, zEx 0, (hts (.classLink RL 21 (zEx 0)) (List.mem_of_getElem? (i := 1) rfl)), hL 1 0 (by decide) (by decide) (by decide)⟩
            exact absurd hz List.not_mem_nil) (by decide) (by decide) (hts (.classLink RL 13 (zEx 1)) (List.mem_of_getElem? (i := 2) rfl)) (zX_cast hX 1 (by decide)) hce hcv hcl ?_
        refine lv_astore (lv' := [(6, .ref q9), (0, .ref (a 0)), (1, .int p1), (2, .int p2), (3, .int p3), (4, .int p4), (5, .ref ao)]) hx hb dL_removeFact_21 hl (by decide) rfl (fun ls hl => ?_)
        refine lv_iconst (v := (2 : Int32)) hx hb dL_removeFact_23 (by decide) ?_
        exact W.iret (v := (2 : Int32)) hx hb hr (fun t ht hW => ⟨⟨(2 : Int32), RR.2, rfl, ⟨rfl, rfl⟩, by rw [ht, hz]; exact hP, va_K.moved hW.alike hK, by rw [hz]; exact hD⟩, hS.F ht⟩) hS.2.2 dL_removeFact_24
      · have hz : zout Int32.toInt64 vo RR.1 = vo := by rw [hk]; rfl
        refine vx_catch (name := zEx 3) hown [⟨0, 14, 17, 21⟩, ⟨0, 14, 21, 13⟩] ⟨0, 14, 25, 26⟩ [] (htab.trans rfl) (fun z hz => by
            rcases List.mem_cons.mp hz with rfl | hz
            · exact Or.inr ⟨by decide, zEx 0, (hts (.classLink RL 21 (zEx 0)) (List.mem_of_getElem? (i := 1) rfl)), hL 3 0 (by decide) (by decide) (by decide)⟩
            rcases List.mem_cons.mp hz with rfl | hz
            · exact Or.inr ⟨by decide, zEx 1, (hts (.classLink RL 13 (zEx 1)) (List.mem_of_getElem? (i := 2) rfl)), hL 3 1 (by decide) (by decide) (by decide)⟩
            exact absurd hz List.not_mem_nil) (by decide) (by decide) (hts (.classLink RL 26 (zEx 3)) (List.mem_of_getElem? (i := 3) rfl)) (zX_cast hX 3 (by decide)) hce hcv hcl ?_
        refine lv_astore (lv' := [(6, .ref q9), (0, .ref (a 0)), (1, .int p1), (2, .int p2), (3, .int p3), (4, .int p4), (5, .ref ao)]) hx hb dL_removeFact_25 hl (by decide) rfl (fun ls hl => ?_)
        refine lv_iconst (v := (3 : Int32)) hx hb dL_removeFact_27 (by decide) ?_
        exact W.iret (v := (3 : Int32)) hx hb hr (fun t ht hW => ⟨⟨(3 : Int32), RR.2, rfl, ⟨rfl, rfl⟩, by rw [ht, hz]; exact hP, va_K.moved hW.alike hK, by rw [hz]; exact hD⟩, hS.F ht⟩) hS.2.2 dL_removeFact_28
    · cases hk.symm.trans ev
  · obtain ⟨er, hu⟩ := hw
    subst hu
    rcases hA with ⟨k9, hk9, ek, rfl⟩ | ⟨v9, ev, rfl⟩
    · cases er.symm.trans ek
    obtain rfl : v9 = rr := Sum.inr.inj (ev.symm.trans er)
    refine lv_i2l hx hb dL_removeFact_12 rfl ?_
    refine va_last hx hb hK hP hD hS 0 1 rfl rfl (inB_vp (by decide)) dL_removeFact_13 (fun H0 locs hP hD hS => ?_)
    have hP9 : va_P G vwCl ((ao, zoc tt (zout Int32.toInt64 vo RR.1)) :: wL tt a b d wd RR.2.1 od hd qc qs bc bs tl rl (RR.2.2.1, RR.2.2.2.1, RR.2.2.2.2.1, RR.2.2.2.2.2.1, RR.2.2.2.2.2.2.1, RR.2.2.2.2.2.2.2.1, RR.2.2.2.2.2.2.2.2.1, RR.2.2.2.2.2.2.2.2.2.1, RR.2.2.2.2.2.2.2.2.2.2.1, RR.2.2.2.2.2.2.2.2.2.2.2.1, RR.2.2.2.2.2.2.2.2.2.2.2.2.1, RR.2.2.2.2.2.2.2.2.2.2.2.2.2.1) q w fr tr g re fi ro RR.2.2.2.2.2.2.2.2.2.2.2.2.2.2.1 r pk cz lh lp se md RR.2.2.2.2.2.2.2.2.2.2.2.2.2.2.2) H0 := by rw [er]; exact hP
    have hD9 : va_D A ((ao, zoc tt (zout Int32.toInt64 vo RR.1)) :: wL tt a b d wd RR.2.1 od hd qc qs bc bs tl rl (RR.2.2.1, RR.2.2.2.1, RR.2.2.2.2.1, RR.2.2.2.2.2.1, RR.2.2.2.2.2.2.1, RR.2.2.2.2.2.2.2.1, RR.2.2.2.2.2.2.2.2.1, RR.2.2.2.2.2.2.2.2.2.1, RR.2.2.2.2.2.2.2.2.2.2.1, RR.2.2.2.2.2.2.2.2.2.2.2.1, RR.2.2.2.2.2.2.2.2.2.2.2.2.1, RR.2.2.2.2.2.2.2.2.2.2.2.2.2.1) q w fr tr g re fi ro RR.2.2.2.2.2.2.2.2.2.2.2.2.2.2.1 r pk cz lh lp se md RR.2.2.2.2.2.2.2.2.2.2.2.2.2.2.2) := by rw [er]; exact hD
    refine lv_goto (tgt := 29) hx hb dL_removeFact_14 (by decide) ?_
    refine lv_iconst (v := (0 : Int32)) hx hb dL_removeFact_29 (by decide) ?_
    exact W.iret (v := (0 : Int32)) hx hb hr (fun t ht hW => ⟨⟨(0 : Int32), RR.2, rfl, ⟨rfl, rfl⟩, by rw [ht]; exact hP9, va_K.moved hW.alike hK, hD9⟩, hS.F ht⟩) hS.2.2 dL_removeFact_30

set_option maxHeartbeats 4000000 in
set_option maxRecDepth 100000 in
theorem mL_addAtom (l : Launch) (G : va_G) (tt : Nat → ClassId) (sa : Nat → Nat) (hlt : l.stackTraces = false) (sz : Nat) (K : Nat) (a : Nat → Nat) (b : Nat → Nat → Nat) (d : Nat → Nat → Nat → Nat) (wd : Nat → Int32) (fa : Nat → Int64) (od hd : Nat → Int32) (qc : Nat → Nat → Int32) (qs : Nat → Int32) (bc : Nat → Nat → Int32) (bs : Nat → Int32) (tl rl : Int32) (H : zH12) (q : zR13) (w fr : Nat → Int64) (tr g re fi : Nat → Int32) (ro im : Int32) (r : zR15) (pk : Int32) (cz : Nat → Int32) (lh : Int32) (lp : Int64) (se : Nat → Int32) (md : Nat → Int64) (ff : Int32) (p1 : Int32) (p2 : Int32) (p3 : Int32) (p4 : Int32) (p5 : Int32) (ao : Nat) (vo : Nat → Int64) (RR : (Nat ⊕ Int32) × (Nat → Nat → Int32) × (Nat → Int32) × (Nat → Nat → Int32) × (Nat → Nat → Int64) × (Nat → Nat → Int32) × (Nat → Nat → Int32) × (Nat → Nat → Nat → Int32) × (Nat → Nat → Int32) × (Nat → Nat → Nat → Int32) × (Nat → Nat → Int32) × (Nat → Int32) × (Nat → Int32) × Int32 × Int32 × Int32) (hF : fX11_addAtom K wd fa od hd bc bs tl rl p1 p2 p3 p4 p5 qc qs H.1 H.2.1 H.2.2.1 H.2.2.2.1 H.2.2.2.2.1 H.2.2.2.2.2.1 H.2.2.2.2.2.2.1 H.2.2.2.2.2.2.2.1 H.2.2.2.2.2.2.2.2.1 H.2.2.2.2.2.2.2.2.2.1 H.2.2.2.2.2.2.2.2.2.2.1 H.2.2.2.2.2.2.2.2.2.2.2 ff = some RR) (bb : Int32 × Int32) (hA : zAg [0, 1, 2] 0 RR.1 bb) : Met l yL_addAtom wsL_addAtom ({ frames := 8, cells := 4, slots := 24, locals := 140 } : Room) (zPreL G (zTy tt) sa [.ref (a 0), .int p1, .int p2, .int p3, .int p4, .int p5, .ref ao] sz ((ao, zoc tt vo) :: wL tt a b d wd fa od hd qc qs bc bs tl rl H q w fr tr g re fi ro im r pk cz lh lp se md ff)) (va_Qi (fun (r : Int32) (u : (Nat → Nat → Int32) × (Nat → Int32) × (Nat → Nat → Int32) × (Nat → Nat → Int64) × (Nat → Nat → Int32) × (Nat → Nat → Int32) × (Nat → Nat → Nat → Int32) × (Nat → Nat → Int32) × (Nat → Nat → Nat → Int32) × (Nat → Nat → Int32) × (Nat → Int32) × (Nat → Int32) × Int32 × Int32 × Int32) => r = bb.2 ∧ u = RR.2) (zAt G (zTy tt) (va_A ((ao, zoc tt vo) :: wL tt a b d wd fa od hd qc qs bc bs tl rl H q w fr tr g re fi ro im r pk cz lh lp se md ff) sz) (fun u : (Nat → Nat → Int32) × (Nat → Int32) × (Nat → Nat → Int32) × (Nat → Nat → Int64) × (Nat → Nat → Int32) × (Nat → Nat → Int32) × (Nat → Nat → Nat → Int32) × (Nat → Nat → Int32) × (Nat → Nat → Nat → Int32) × (Nat → Nat → Int32) × (Nat → Int32) × (Nat → Int32) × Int32 × Int32 × Int32 => (ao, zoc tt (zout Int32.toInt64 vo RR.1)) :: wL tt a b d wd fa od hd u.1 u.2.1 bc bs tl rl (u.2.2.1, u.2.2.2.1, u.2.2.2.2.1, u.2.2.2.2.2.1, u.2.2.2.2.2.2.1, u.2.2.2.2.2.2.2.1, u.2.2.2.2.2.2.2.2.1, u.2.2.2.2.2.2.2.2.2.1, u.2.2.2.2.2.2.2.2.2.2.1, u.2.2.2.2.2.2.2.2.2.2.2.1, u.2.2.2.2.2.2.2.2.2.2.2.2.1, u.2.2.2.2.2.2.2.2.2.2.2.2.2.1) q w fr tr g re fi ro im r pk cz lh lp se md u.2.2.2.2.2.2.2.2.2.2.2.2.2.2)) (va_A ((ao, zoc tt vo) :: wL tt a b d wd fa od hd qc qs bc bs tl rl H q w fr tr g re fi ro im r pk cz lh lp se md ff) sz)) 4 24 (va_A ((ao, zoc tt vo) :: wL tt a b d wd fa od hd qc qs bc bs tl rl H q w fr tr g re fi ro im r pk cz lh lp se md ff) sz) := by
  refine va_MetW (cc := cL_addAtom) (maxL := 8) (ret := (some .int)) (hh := [(0, 16, 19, 21), (0, 16, 23, 13), (0, 16, 27, 15)]) (by decide +kernel) rfl ?_
  intro p e s m args below meth c s₁ B hml hv
  obtain ⟨⟨rfl, hsz, hP, hK, hD0, hN, hX⟩, hL⟩ := hv
  have hx := B.exec
  have hb := B.bytes
  have hr := B.returns
  have hts := atoms_spec (ws := wsL_addAtom) B.pre
  have hown : s.vm.findClass RL = some m.cls := findClass_of_methodNamed B.named
  have hlocks := B.notSynchronized
  have htab : c.exceptionTable.toList = tableOf [(0, 16, 19, 21), (0, 16, 23, 13), (0, 16, 27, 15)] := vx_table (x := yL_addAtom) B (hts _ List.mem_cons_self)
  subst hsz
  have hD := hD0.self (sz := s.heap.size)
  generalize hAe : va_A ((ao, zoc tt vo) :: wL tt a b d wd fa od hd qc qs bc bs tl rl H q w fr tr g re fi ro im r pk cz lh lp se md ff) s.heap.size = A at hD hX ⊢
  have hA9 : ∀ q : Nat, s.heap.size ≤ q → A q := fun q h => by rw [← hAe]; exact Or.inr h
  have hl := lv_entry ([.ref (a 0), .int p1, .int p2, .int p3, .int p4, .int p5, .ref ao]) (n := 8) (Nat.le_of_ble_eq_true rfl)
  rw [lg_entry_eq]
  generalize (lg_sl ([.ref (a 0), .int p1, .int p2, .int p3, .int p4, .int p5, .ref ao]) ++ List.replicate (8 - (lg_sl ([.ref (a 0), .int p1, .int p2, .int p3, .int p4, .int p5, .ref ao])).length) Slot.unset).toArray = ls at hl ⊢
  have hl : lv_has ls 8 [(0, .ref (a 0)), (1, .int p1), (2, .int p2), (3, .int p3), (4, .int p4), (5, .int p5), (6, .ref ao)] := hl
  obtain ⟨H0, hHe⟩ : ∃ H : Heap, s.heap = H := ⟨_, rfl⟩
  have hS : va_S A s.heap H0 [] := by rw [← hHe]; exact va_S.rf
  rw [hHe] at hP ⊢
  have hP := zP_perm (List.perm_append_comm (l₁ := [(ao, zoc tt vo)]) (l₂ := wL tt a b d wd fa od hd qc qs bc bs tl rl H q w fr tr g re fi ro im r pk cz lh lp se md ff)) hP
  have hD := zD_perm (List.perm_append_comm (l₁ := [(ao, zoc tt vo)]) (l₂ := wL tt a b d wd fa od hd qc qs bc bs tl rl H q w fr tr g re fi ro im r pk cz lh lp se md ff)) hD
  refine lv_aload hx hb dL_addAtom_0 (lv_at hl 6 rfl) ?_
  refine lv_iconst (v := (0 : Int32)) hx hb dL_addAtom_2 (by decide) ?_
  refine lv_aload_n hx hb dL_addAtom_3 rfl (lv_at hl 0 rfl) ?_
  refine lv_iload_n hx hb dL_addAtom_4 rfl (lv_at hl 1 rfl) ?_
  refine lv_iload_n hx hb dL_addAtom_5 rfl (lv_at hl 2 rfl) ?_
  refine lv_iload_n hx hb dL_addAtom_6 rfl (lv_at hl 3 rfl) ?_
  refine lv_iload hx hb dL_addAtom_7 (lv_at hl 4 rfl) ?_
  refine lv_iload hx hb dL_addAtom_9 (lv_at hl 5 rfl) ?_
  refine z_callXi (wc := wL tt a b d wd fa od hd qc qs bc bs tl rl H q w fr tr g re fi ro im r pk cz lh lp se md ff) (wr := [(ao, zoc tt vo)]) (As := [.int p1, .int p2, .int p3, .int p4, .int p5]) (rest := [.int (0 : Int32), .ref ao]) (ci := 10) ⟨hx, hb, hml, hown, hts⟩ hK hN hX hP hD hS hA9 (nX11_addAtom l G tt sa hlt H0.size K a b d wd fa od hd qc qs bc bs tl rl H q w fr tr g re fi ro im r pk cz lh lp se md ff p1 p2 p3 p4 p5 RR hF) (cwV 5 hts gL_addAtom_X11_addAtom rfl rfl rfl (by decide +kernel) ⟨Nat.le_of_ble_eq_true rfl, Nat.le_of_ble_eq_true rfl⟩) rfl rfl rfl hl.1 rfl (Nat.le_of_ble_eq_true rfl) dL_addAtom_11 ⟨Nat.le_of_ble_eq_true rfl, Nat.le_of_ble_eq_true rfl⟩ (fun k ce q9 H0 locs hk hP hD hS hce hcv hcl => ?_) (fun rr u H0 locs hw hP hD hS => ?_)
  · rcases hA with ⟨k9, hk9, ek, rfl⟩ | ⟨v9, ev, rfl⟩
    · obtain rfl : k9 = k := Sum.inl.inj (ek.symm.trans hk)
      have hk9 : k9 = 0 ∨ k9 = 1 ∨ k9 = 2 := by simpa using hk9
      rcases hk9 with rfl | rfl | rfl
      · have hz : zout Int32.toInt64 vo RR.1 = vo := by rw [hk]; rfl
        refine vx_catch (name := zEx 0) hown [] ⟨0, 16, 19, 21⟩ [⟨0, 16, 23, 13⟩, ⟨0, 16, 27, 15⟩] (htab.trans rfl) (fun z hz => by
            exact absurd hz List.not_mem_nil) (by decide) (by decide) (hts (.classLink RL 21 (zEx 0)) (List.mem_of_getElem? (i := 1) rfl)) (zX_cast hX 0 (by decide)) hce hcv hcl ?_
        refine lv_astore (lv' := [(7, .ref q9), (0, .ref (a 0)), (1, .int p1), (2, .int p2), (3, .int p3), (4, .int p4), (5, .int p5), (6, .ref ao)]) hx hb dL_addAtom_19 hl (by decide) rfl (fun ls hl => ?_)
        refine lv_iconst (v := (1 : Int32)) hx hb dL_addAtom_21 (by decide) ?_
        exact W.iret (v := (1 : Int32)) hx hb hr (fun t ht hW => ⟨⟨(1 : Int32), RR.2, rfl, ⟨rfl, rfl⟩, by rw [ht, hz]; exact hP, va_K.moved hW.alike hK, by rw [hz]; exact hD⟩, hS.F ht⟩) hS.2.2 dL_addAtom_22
      · have hz : zout Int32.toInt64 vo RR.1 = vo := by rw [hk]; rfl
        refine vx_catch (name := zEx 1) hown [⟨0, 16, 19, 21⟩] ⟨0, 16, 23, 13⟩ [⟨0, 16, 27, 15⟩] (htab.trans rfl) (fun z hz => by
            rcases List.mem_cons.mp hz with rfl | hz
            · exact Or.inr ⟨by decide, zEx 0, (hts (.classLink RL 21 (zEx 0)) (List.mem_of_getElem? (i := 1) rfl)), hL 1 0 (by decide) (by decide) (by decide)⟩
            exact absurd hz List.not_mem_nil) (by decide) (by decide) (hts (.classLink RL 13 (zEx 1)) (List.mem_of_getElem? (i := 2) rfl)) (zX_cast hX 1 (by decide)) hce hcv hcl ?_
        refine lv_astore (lv' := [(7, .ref q9), (0, .ref (a 0)), (1, .int p1), (2, .int p2), (3, .int p3), (4, .int p4), (5, .int p5), (6, .ref ao)]) hx hb dL_addAtom_23 hl (by decide) rfl (fun ls hl => ?_)
        refine lv_iconst (v := (2 : Int32)) hx hb dL_addAtom_25 (by decide) ?_
        exact W.iret (v := (2 : Int32)) hx hb hr (fun t ht hW => ⟨⟨(2 : Int32), RR.2, rfl, ⟨rfl, rfl⟩, by rw [ht, hz]; exact hP, va_K.moved hW.alike hK, by rw [hz]; exact hD⟩, hS.F ht⟩) hS.2.2 dL_addAtom_26
      · have hz : zout Int32.toInt64 vo RR.1 = vo := by rw [hk]; rfl
        refine vx_catch (name := zEx 2) hown [⟨0, 16, 19, 21⟩, ⟨0, 16, 23, 13⟩] ⟨0, 16, 27, 15⟩ [] (htab.trans rfl) (fun z hz => by
            rcases List.mem_cons.mp hz with rfl | hz
            · exact Or.inr ⟨by decide, zEx 0, (hts (.classLink RL 21 (zEx 0)) (List.mem_of_getElem? (i := 1) rfl)), hL 2 0 (by decide) (by decide) (by decide)⟩
            rcases List.mem_cons.mp hz with rfl | hz
            · exact Or.inr ⟨by decide, zEx 1, (hts (.classLink RL 13 (zEx 1)) (List.mem_of_getElem? (i := 2) rfl)), hL 2 1 (by decide) (by decide) (by decide)⟩
            exact absurd hz List.not_mem_nil) (by decide) (by decide) (hts (.classLink RL 15 (zEx 2)) (List.mem_of_getElem? (i := 3) rfl)) (zX_cast hX 2 (by decide)) hce hcv hcl ?_
        refine lv_astore (lv' := [(7, .ref q9), (0, .ref (a 0)), (1, .int p1), (2, .int p2), (3, .int p3), (4, .int p4), (5, .int p5), (6, .ref ao)]) hx hb dL_addAtom_27 hl (by decide) rfl (fun ls hl => ?_)
        refine lv_iconst (v := (3 : Int32)) hx hb dL_addAtom_29 (by decide) ?_
        exact W.iret (v := (3 : Int32)) hx hb hr (fun t ht hW => ⟨⟨(3 : Int32), RR.2, rfl, ⟨rfl, rfl⟩, by rw [ht, hz]; exact hP, va_K.moved hW.alike hK, by rw [hz]; exact hD⟩, hS.F ht⟩) hS.2.2 dL_addAtom_30
    · cases hk.symm.trans ev
  · obtain ⟨er, hu⟩ := hw
    subst hu
    rcases hA with ⟨k9, hk9, ek, rfl⟩ | ⟨v9, ev, rfl⟩
    · cases er.symm.trans ek
    obtain rfl : v9 = rr := Sum.inr.inj (ev.symm.trans er)
    refine lv_i2l hx hb dL_addAtom_14 rfl ?_
    refine va_last hx hb hK hP hD hS 0 1 rfl rfl (inB_vp (by decide)) dL_addAtom_15 (fun H0 locs hP hD hS => ?_)
    have hP9 : va_P G vwCl ((ao, zoc tt (zout Int32.toInt64 vo RR.1)) :: wL tt a b d wd fa od hd RR.2.1 RR.2.2.1 bc bs tl rl (RR.2.2.2.1, RR.2.2.2.2.1, RR.2.2.2.2.2.1, RR.2.2.2.2.2.2.1, RR.2.2.2.2.2.2.2.1, RR.2.2.2.2.2.2.2.2.1, RR.2.2.2.2.2.2.2.2.2.1, RR.2.2.2.2.2.2.2.2.2.2.1, RR.2.2.2.2.2.2.2.2.2.2.2.1, RR.2.2.2.2.2.2.2.2.2.2.2.2.1, RR.2.2.2.2.2.2.2.2.2.2.2.2.2.1, RR.2.2.2.2.2.2.2.2.2.2.2.2.2.2.1) q w fr tr g re fi ro im r pk cz lh lp se md RR.2.2.2.2.2.2.2.2.2.2.2.2.2.2.2) H0 := by rw [er]; exact hP
    have hD9 : va_D A ((ao, zoc tt (zout Int32.toInt64 vo RR.1)) :: wL tt a b d wd fa od hd RR.2.1 RR.2.2.1 bc bs tl rl (RR.2.2.2.1, RR.2.2.2.2.1, RR.2.2.2.2.2.1, RR.2.2.2.2.2.2.1, RR.2.2.2.2.2.2.2.1, RR.2.2.2.2.2.2.2.2.1, RR.2.2.2.2.2.2.2.2.2.1, RR.2.2.2.2.2.2.2.2.2.2.1, RR.2.2.2.2.2.2.2.2.2.2.2.1, RR.2.2.2.2.2.2.2.2.2.2.2.2.1, RR.2.2.2.2.2.2.2.2.2.2.2.2.2.1, RR.2.2.2.2.2.2.2.2.2.2.2.2.2.2.1) q w fr tr g re fi ro im r pk cz lh lp se md RR.2.2.2.2.2.2.2.2.2.2.2.2.2.2.2) := by rw [er]; exact hD
    refine lv_goto (tgt := 31) hx hb dL_addAtom_16 (by decide) ?_
    refine lv_iconst (v := (0 : Int32)) hx hb dL_addAtom_31 (by decide) ?_
    exact W.iret (v := (0 : Int32)) hx hb hr (fun t ht hW => ⟨⟨(0 : Int32), RR.2, rfl, ⟨rfl, rfl⟩, by rw [ht]; exact hP9, va_K.moved hW.alike hK, hD9⟩, hS.F ht⟩) hS.2.2 dL_addAtom_32

set_option maxHeartbeats 4000000 in
set_option maxRecDepth 100000 in
theorem mL_clearQuery (l : Launch) (G : va_G) (tt : Nat → ClassId) (sa : Nat → Nat) (hlt : l.stackTraces = false) (sz : Nat) (K : Nat) (a : Nat → Nat) (b : Nat → Nat → Nat) (d : Nat → Nat → Nat → Nat) (wd : Nat → Int32) (fa : Nat → Int64) (od hd : Nat → Int32) (qc : Nat → Nat → Int32) (qs : Nat → Int32) (bc : Nat → Nat → Int32) (bs : Nat → Int32) (tl rl : Int32) (H : zH12) (q : zR13) (w fr : Nat → Int64) (tr g re fi : Nat → Int32) (ro im : Int32) (r : zR15) (pk : Int32) (cz : Nat → Int32) (lh : Int32) (lp : Int64) (se : Nat → Int32) (md : Nat → Int64) (ff : Int32) (p1 : Int32) (ao : Nat) (vo : Nat → Int64) (RR : (Nat ⊕ Int32) × (Nat → Int32) × (Nat → Nat → Int32) × (Nat → Nat → Int64) × (Nat → Nat → Int32) × (Nat → Nat → Int32) × (Nat → Nat → Nat → Int32) × (Nat → Nat → Int32) × (Nat → Nat → Nat → Int32) × (Nat → Nat → Int32) × (Nat → Int32) × (Nat → Int32) × Int32 × Int32 × Int32) (hF : fX11_clearQuery K wd fa od hd qc bc bs tl rl p1 qs H.1 H.2.1 H.2.2.1 H.2.2.2.1 H.2.2.2.2.1 H.2.2.2.2.2.1 H.2.2.2.2.2.2.1 H.2.2.2.2.2.2.2.1 H.2.2.2.2.2.2.2.2.1 H.2.2.2.2.2.2.2.2.2.1 H.2.2.2.2.2.2.2.2.2.2.1 H.2.2.2.2.2.2.2.2.2.2.2 ff = some RR) (bb : Int32 × Int32) (hA : zAg [0] 0 RR.1 bb) : Met l yL_clearQuery wsL_clearQuery ({ frames := 8, cells := 1, slots := 6, locals := 134 } : Room) (zPreL G (zTy tt) sa [.ref (a 0), .int p1, .ref ao] sz ((ao, zoc tt vo) :: wL tt a b d wd fa od hd qc qs bc bs tl rl H q w fr tr g re fi ro im r pk cz lh lp se md ff)) (va_Qi (fun (r : Int32) (u : (Nat → Int32) × (Nat → Nat → Int32) × (Nat → Nat → Int64) × (Nat → Nat → Int32) × (Nat → Nat → Int32) × (Nat → Nat → Nat → Int32) × (Nat → Nat → Int32) × (Nat → Nat → Nat → Int32) × (Nat → Nat → Int32) × (Nat → Int32) × (Nat → Int32) × Int32 × Int32 × Int32) => r = bb.2 ∧ u = RR.2) (zAt G (zTy tt) (va_A ((ao, zoc tt vo) :: wL tt a b d wd fa od hd qc qs bc bs tl rl H q w fr tr g re fi ro im r pk cz lh lp se md ff) sz) (fun u : (Nat → Int32) × (Nat → Nat → Int32) × (Nat → Nat → Int64) × (Nat → Nat → Int32) × (Nat → Nat → Int32) × (Nat → Nat → Nat → Int32) × (Nat → Nat → Int32) × (Nat → Nat → Nat → Int32) × (Nat → Nat → Int32) × (Nat → Int32) × (Nat → Int32) × Int32 × Int32 × Int32 => (ao, zoc tt (zout Int32.toInt64 vo RR.1)) :: wL tt a b d wd fa od hd qc u.1 bc bs tl rl (u.2.1, u.2.2.1, u.2.2.2.1, u.2.2.2.2.1, u.2.2.2.2.2.1, u.2.2.2.2.2.2.1, u.2.2.2.2.2.2.2.1, u.2.2.2.2.2.2.2.2.1, u.2.2.2.2.2.2.2.2.2.1, u.2.2.2.2.2.2.2.2.2.2.1, u.2.2.2.2.2.2.2.2.2.2.2.1, u.2.2.2.2.2.2.2.2.2.2.2.2.1) q w fr tr g re fi ro im r pk cz lh lp se md u.2.2.2.2.2.2.2.2.2.2.2.2.2)) (va_A ((ao, zoc tt vo) :: wL tt a b d wd fa od hd qc qs bc bs tl rl H q w fr tr g re fi ro im r pk cz lh lp se md ff) sz)) 1 6 (va_A ((ao, zoc tt vo) :: wL tt a b d wd fa od hd qc qs bc bs tl rl H q w fr tr g re fi ro im r pk cz lh lp se md ff) sz) := by
  refine va_MetW (cc := cL_clearQuery) (maxL := 4) (ret := (some .int)) (hh := [(0, 9, 12, 21)]) (by decide +kernel) rfl ?_
  intro p e s m args below meth c s₁ B hml hv
  obtain ⟨⟨rfl, hsz, hP, hK, hD0, hN, hX⟩, hL⟩ := hv
  have hx := B.exec
  have hb := B.bytes
  have hr := B.returns
  have hts := atoms_spec (ws := wsL_clearQuery) B.pre
  have hown : s.vm.findClass RL = some m.cls := findClass_of_methodNamed B.named
  have hlocks := B.notSynchronized
  have htab : c.exceptionTable.toList = tableOf [(0, 9, 12, 21)] := vx_table (x := yL_clearQuery) B (hts _ List.mem_cons_self)
  subst hsz
  have hD := hD0.self (sz := s.heap.size)
  generalize hAe : va_A ((ao, zoc tt vo) :: wL tt a b d wd fa od hd qc qs bc bs tl rl H q w fr tr g re fi ro im r pk cz lh lp se md ff) s.heap.size = A at hD hX ⊢
  have hA9 : ∀ q : Nat, s.heap.size ≤ q → A q := fun q h => by rw [← hAe]; exact Or.inr h
  have hl := lv_entry ([.ref (a 0), .int p1, .ref ao]) (n := 4) (Nat.le_of_ble_eq_true rfl)
  rw [lg_entry_eq]
  generalize (lg_sl ([.ref (a 0), .int p1, .ref ao]) ++ List.replicate (4 - (lg_sl ([.ref (a 0), .int p1, .ref ao])).length) Slot.unset).toArray = ls at hl ⊢
  have hl : lv_has ls 4 [(0, .ref (a 0)), (1, .int p1), (2, .ref ao)] := hl
  obtain ⟨H0, hHe⟩ : ∃ H : Heap, s.heap = H := ⟨_, rfl⟩
  have hS : va_S A s.heap H0 [] := by rw [← hHe]; exact va_S.rf
  rw [hHe] at hP ⊢
  have hP := zP_perm (List.perm_append_comm (l₁ := [(ao, zoc tt vo)]) (l₂ := wL tt a b d wd fa od hd qc qs bc bs tl rl H q w fr tr g re fi ro im r pk cz lh lp se md ff)) hP
  have hD := zD_perm (List.perm_append_comm (l₁ := [(ao, zoc tt vo)]) (l₂ := wL tt a b d wd fa od hd qc qs bc bs tl rl H q w fr tr g re fi ro im r pk cz lh lp se md ff)) hD
  refine lv_aload_n hx hb dL_clearQuery_0 rfl (lv_at hl 2 rfl) ?_
  refine lv_iconst (v := (0 : Int32)) hx hb dL_clearQuery_1 (by decide) ?_
  refine lv_aload_n hx hb dL_clearQuery_2 rfl (lv_at hl 0 rfl) ?_
  refine lv_iload_n hx hb dL_clearQuery_3 rfl (lv_at hl 1 rfl) ?_
  refine z_callXi (wc := wL tt a b d wd fa od hd qc qs bc bs tl rl H q w fr tr g re fi ro im r pk cz lh lp se md ff) (wr := [(ao, zoc tt vo)]) (As := [.int p1]) (rest := [.int (0 : Int32), .ref ao]) (ci := 10) ⟨hx, hb, hml, hown, hts⟩ hK hN hX hP hD hS hA9 (nX11_clearQuery l G tt sa hlt H0.size K a b d wd fa od hd qc qs bc bs tl rl H q w fr tr g re fi ro im r pk cz lh lp se md ff p1 RR hF) (cwV 1 hts gL_clearQuery_X11_clearQuery rfl rfl rfl (by decide +kernel) ⟨Nat.le_of_ble_eq_true rfl, Nat.le_of_ble_eq_true rfl⟩) rfl rfl rfl hl.1 rfl (Nat.le_of_ble_eq_true rfl) dL_clearQuery_4 ⟨Nat.le_of_ble_eq_true rfl, Nat.le_of_ble_eq_true rfl⟩ (fun k ce q9 H0 locs hk hP hD hS hce hcv hcl => ?_) (fun rr u H0 locs hw hP hD hS => ?_)
  · rcases hA with ⟨k9, hk9, ek, rfl⟩ | ⟨v9, ev, rfl⟩
    · obtain rfl : k9 = k := Sum.inl.inj (ek.symm.trans hk)
      have hk9 : k9 = 0 := by simpa using hk9
      subst hk9
      have hz : zout Int32.toInt64 vo RR.1 = vo := by rw [hk]; rfl
      refine vx_catch (name := zEx 0) hown [] ⟨0, 9, 12, 21⟩ [] (htab.trans rfl) (fun z hz => by
          exact absurd hz List.not_mem_nil) (by decide) (by decide) (hts (.classLink RL 21 (zEx 0)) (List.mem_of_getElem? (i := 1) rfl)) (zX_cast hX 0 (by decide)) hce hcv hcl ?_
      refine lv_astore_n (lv' := [(3, .ref q9), (0, .ref (a 0)), (1, .int p1), (2, .ref ao)]) hx hb dL_clearQuery_12 rfl hl (by decide) rfl (fun ls hl => ?_)
      refine lv_iconst (v := (1 : Int32)) hx hb dL_clearQuery_13 (by decide) ?_
      exact W.iret (v := (1 : Int32)) hx hb hr (fun t ht hW => ⟨⟨(1 : Int32), RR.2, rfl, ⟨rfl, rfl⟩, by rw [ht, hz]; exact hP, va_K.moved hW.alike hK, by rw [hz]; exact hD⟩, hS.F ht⟩) hS.2.2 dL_clearQuery_14
    · cases hk.symm.trans ev
  · obtain ⟨er, hu⟩ := hw
    subst hu
    rcases hA with ⟨k9, hk9, ek, rfl⟩ | ⟨v9, ev, rfl⟩
    · cases er.symm.trans ek
    obtain rfl : v9 = rr := Sum.inr.inj (ev.symm.trans er)
    refine lv_i2l hx hb dL_clearQuery_7 rfl ?_
    refine va_last hx hb hK hP hD hS 0 1 rfl rfl (inB_vp (by decide)) dL_clearQuery_8 (fun H0 locs hP hD hS => ?_)
    have hP9 : va_P G vwCl ((ao, zoc tt (zout Int32.toInt64 vo RR.1)) :: wL tt a b d wd fa od hd qc RR.2.1 bc bs tl rl (RR.2.2.1, RR.2.2.2.1, RR.2.2.2.2.1, RR.2.2.2.2.2.1, RR.2.2.2.2.2.2.1, RR.2.2.2.2.2.2.2.1, RR.2.2.2.2.2.2.2.2.1, RR.2.2.2.2.2.2.2.2.2.1, RR.2.2.2.2.2.2.2.2.2.2.1, RR.2.2.2.2.2.2.2.2.2.2.2.1, RR.2.2.2.2.2.2.2.2.2.2.2.2.1, RR.2.2.2.2.2.2.2.2.2.2.2.2.2.1) q w fr tr g re fi ro im r pk cz lh lp se md RR.2.2.2.2.2.2.2.2.2.2.2.2.2.2) H0 := by rw [er]; exact hP
    have hD9 : va_D A ((ao, zoc tt (zout Int32.toInt64 vo RR.1)) :: wL tt a b d wd fa od hd qc RR.2.1 bc bs tl rl (RR.2.2.1, RR.2.2.2.1, RR.2.2.2.2.1, RR.2.2.2.2.2.1, RR.2.2.2.2.2.2.1, RR.2.2.2.2.2.2.2.1, RR.2.2.2.2.2.2.2.2.1, RR.2.2.2.2.2.2.2.2.2.1, RR.2.2.2.2.2.2.2.2.2.2.1, RR.2.2.2.2.2.2.2.2.2.2.2.1, RR.2.2.2.2.2.2.2.2.2.2.2.2.1, RR.2.2.2.2.2.2.2.2.2.2.2.2.2.1) q w fr tr g re fi ro im r pk cz lh lp se md RR.2.2.2.2.2.2.2.2.2.2.2.2.2.2) := by rw [er]; exact hD
    refine lv_goto (tgt := 15) hx hb dL_clearQuery_9 (by decide) ?_
    refine lv_iconst (v := (0 : Int32)) hx hb dL_clearQuery_15 (by decide) ?_
    exact W.iret (v := (0 : Int32)) hx hb hr (fun t ht hW => ⟨⟨(0 : Int32), RR.2, rfl, ⟨rfl, rfl⟩, by rw [ht]; exact hP9, va_K.moved hW.alike hK, hD9⟩, hS.F ht⟩) hS.2.2 dL_clearQuery_16

set_option maxHeartbeats 4000000 in
set_option maxRecDepth 100000 in
theorem mL_setOrder (l : Launch) (G : va_G) (tt : Nat → ClassId) (sa : Nat → Nat) (hlt : l.stackTraces = false) (sz : Nat) (K : Nat) (a : Nat → Nat) (b : Nat → Nat → Nat) (d : Nat → Nat → Nat → Nat) (wd : Nat → Int32) (fa : Nat → Int64) (od hd : Nat → Int32) (qc : Nat → Nat → Int32) (qs : Nat → Int32) (bc : Nat → Nat → Int32) (bs : Nat → Int32) (tl rl : Int32) (H : zH12) (q : zR13) (w fr : Nat → Int64) (tr g re fi : Nat → Int32) (ro im : Int32) (r : zR15) (pk : Int32) (cz : Nat → Int32) (lh : Int32) (lp : Int64) (se : Nat → Int32) (md : Nat → Int64) (ff : Int32) (p1 : Int32) (p2 : Int32) (ao : Nat) (vo : Nat → Int64) (RR : (Nat ⊕ Int32) × (Nat → Int32) × (Nat → Nat → Int32) × (Nat → Nat → Int64) × (Nat → Nat → Int32) × (Nat → Nat → Int32) × (Nat → Nat → Nat → Int32) × (Nat → Nat → Int32) × (Nat → Nat → Nat → Int32) × (Nat → Nat → Int32) × (Nat → Int32) × (Nat → Int32) × Int32 × Int32 × Int32) (hF : fX11_setOrder K wd fa hd qc qs bc bs tl rl p1 p2 od H.1 H.2.1 H.2.2.1 H.2.2.2.1 H.2.2.2.2.1 H.2.2.2.2.2.1 H.2.2.2.2.2.2.1 H.2.2.2.2.2.2.2.1 H.2.2.2.2.2.2.2.2.1 H.2.2.2.2.2.2.2.2.2.1 H.2.2.2.2.2.2.2.2.2.2.1 H.2.2.2.2.2.2.2.2.2.2.2 ff = some RR) (bb : Int32 × Int32) (hA : zAg [0, 1] 0 RR.1 bb) : Met l yL_setOrder wsL_setOrder ({ frames := 8, cells := 2, slots := 12, locals := 134 } : Room) (zPreL G (zTy tt) sa [.ref (a 0), .int p1, .int p2, .ref ao] sz ((ao, zoc tt vo) :: wL tt a b d wd fa od hd qc qs bc bs tl rl H q w fr tr g re fi ro im r pk cz lh lp se md ff)) (va_Qi (fun (r : Int32) (u : (Nat → Int32) × (Nat → Nat → Int32) × (Nat → Nat → Int64) × (Nat → Nat → Int32) × (Nat → Nat → Int32) × (Nat → Nat → Nat → Int32) × (Nat → Nat → Int32) × (Nat → Nat → Nat → Int32) × (Nat → Nat → Int32) × (Nat → Int32) × (Nat → Int32) × Int32 × Int32 × Int32) => r = bb.2 ∧ u = RR.2) (zAt G (zTy tt) (va_A ((ao, zoc tt vo) :: wL tt a b d wd fa od hd qc qs bc bs tl rl H q w fr tr g re fi ro im r pk cz lh lp se md ff) sz) (fun u : (Nat → Int32) × (Nat → Nat → Int32) × (Nat → Nat → Int64) × (Nat → Nat → Int32) × (Nat → Nat → Int32) × (Nat → Nat → Nat → Int32) × (Nat → Nat → Int32) × (Nat → Nat → Nat → Int32) × (Nat → Nat → Int32) × (Nat → Int32) × (Nat → Int32) × Int32 × Int32 × Int32 => (ao, zoc tt (zout Int32.toInt64 vo RR.1)) :: wL tt a b d wd fa u.1 hd qc qs bc bs tl rl (u.2.1, u.2.2.1, u.2.2.2.1, u.2.2.2.2.1, u.2.2.2.2.2.1, u.2.2.2.2.2.2.1, u.2.2.2.2.2.2.2.1, u.2.2.2.2.2.2.2.2.1, u.2.2.2.2.2.2.2.2.2.1, u.2.2.2.2.2.2.2.2.2.2.1, u.2.2.2.2.2.2.2.2.2.2.2.1, u.2.2.2.2.2.2.2.2.2.2.2.2.1) q w fr tr g re fi ro im r pk cz lh lp se md u.2.2.2.2.2.2.2.2.2.2.2.2.2)) (va_A ((ao, zoc tt vo) :: wL tt a b d wd fa od hd qc qs bc bs tl rl H q w fr tr g re fi ro im r pk cz lh lp se md ff) sz)) 2 12 (va_A ((ao, zoc tt vo) :: wL tt a b d wd fa od hd qc qs bc bs tl rl H q w fr tr g re fi ro im r pk cz lh lp se md ff) sz) := by
  refine va_MetW (cc := cL_setOrder) (maxL := 5) (ret := (some .int)) (hh := [(0, 10, 13, 21), (0, 10, 17, 13)]) (by decide +kernel) rfl ?_
  intro p e s m args below meth c s₁ B hml hv
  obtain ⟨⟨rfl, hsz, hP, hK, hD0, hN, hX⟩, hL⟩ := hv
  have hx := B.exec
  have hb := B.bytes
  have hr := B.returns
  have hts := atoms_spec (ws := wsL_setOrder) B.pre
  have hown : s.vm.findClass RL = some m.cls := findClass_of_methodNamed B.named
  have hlocks := B.notSynchronized
  have htab : c.exceptionTable.toList = tableOf [(0, 10, 13, 21), (0, 10, 17, 13)] := vx_table (x := yL_setOrder) B (hts _ List.mem_cons_self)
  subst hsz
  have hD := hD0.self (sz := s.heap.size)
  generalize hAe : va_A ((ao, zoc tt vo) :: wL tt a b d wd fa od hd qc qs bc bs tl rl H q w fr tr g re fi ro im r pk cz lh lp se md ff) s.heap.size = A at hD hX ⊢
  have hA9 : ∀ q : Nat, s.heap.size ≤ q → A q := fun q h => by rw [← hAe]; exact Or.inr h
  have hl := lv_entry ([.ref (a 0), .int p1, .int p2, .ref ao]) (n := 5) (Nat.le_of_ble_eq_true rfl)
  rw [lg_entry_eq]
  generalize (lg_sl ([.ref (a 0), .int p1, .int p2, .ref ao]) ++ List.replicate (5 - (lg_sl ([.ref (a 0), .int p1, .int p2, .ref ao])).length) Slot.unset).toArray = ls at hl ⊢
  have hl : lv_has ls 5 [(0, .ref (a 0)), (1, .int p1), (2, .int p2), (3, .ref ao)] := hl
  obtain ⟨H0, hHe⟩ : ∃ H : Heap, s.heap = H := ⟨_, rfl⟩
  have hS : va_S A s.heap H0 [] := by rw [← hHe]; exact va_S.rf
  rw [hHe] at hP ⊢
  have hP := zP_perm (List.perm_append_comm (l₁ := [(ao, zoc tt vo)]) (l₂ := wL tt a b d wd fa od hd qc qs bc bs tl rl H q w fr tr g re fi ro im r pk cz lh lp se md ff)) hP
  have hD := zD_perm (List.perm_append_comm (l₁ := [(ao, zoc tt vo)]) (l₂ := wL tt a b d wd fa od hd qc qs bc bs tl rl H q w fr tr g re fi ro im r pk cz lh lp se md ff)) hD
  refine lv_aload_n hx hb dL_setOrder_0 rfl (lv_at hl 3 rfl) ?_
  refine lv_iconst (v := (0 : Int32)) hx hb dL_setOrder_1 (by decide) ?_
  refine lv_aload_n hx hb dL_setOrder_2 rfl (lv_at hl 0 rfl) ?_
  refine lv_iload_n hx hb dL_setOrder_3 rfl (lv_at hl 1 rfl) ?_
  refine lv_iload_n hx hb dL_setOrder_4 rfl (lv_at hl 2 rfl) ?_
  refine z_callXi (wc := wL tt a b d wd fa od hd qc qs bc bs tl rl H q w fr tr g re fi ro im r pk cz lh lp se md ff) (wr := [(ao, zoc tt vo)]) (As := [.int p1, .int p2]) (rest := [.int (0 : Int32), .ref ao]) (ci := 10) ⟨hx, hb, hml, hown, hts⟩ hK hN hX hP hD hS hA9 (nX11_setOrder l G tt sa hlt H0.size K a b d wd fa od hd qc qs bc bs tl rl H q w fr tr g re fi ro im r pk cz lh lp se md ff p1 p2 RR hF) (cwV 2 hts gL_setOrder_X11_setOrder rfl rfl rfl (by decide +kernel) ⟨Nat.le_of_ble_eq_true rfl, Nat.le_of_ble_eq_true rfl⟩) rfl rfl rfl hl.1 rfl (Nat.le_of_ble_eq_true rfl) dL_setOrder_5 ⟨Nat.le_of_ble_eq_true rfl, Nat.le_of_ble_eq_true rfl⟩ (fun k ce q9 H0 locs hk hP hD hS hce hcv hcl => ?_) (fun rr u H0 locs hw hP hD hS => ?_)
  · rcases hA with ⟨k9, hk9, ek, rfl⟩ | ⟨v9, ev, rfl⟩
    · obtain rfl : k9 = k := Sum.inl.inj (ek.symm.trans hk)
      have hk9 : k9 = 0 ∨ k9 = 1 := by simpa using hk9
      rcases hk9 with rfl | rfl
      · have hz : zout Int32.toInt64 vo RR.1 = vo := by rw [hk]; rfl
        refine vx_catch (name := zEx 0) hown [] ⟨0, 10, 13, 21⟩ [⟨0, 10, 17, 13⟩] (htab.trans rfl) (fun z hz => by
            exact absurd hz List.not_mem_nil) (by decide) (by decide) (hts (.classLink RL 21 (zEx 0)) (List.mem_of_getElem? (i := 1) rfl)) (zX_cast hX 0 (by decide)) hce hcv hcl ?_
        refine lv_astore (lv' := [(4, .ref q9), (0, .ref (a 0)), (1, .int p1), (2, .int p2), (3, .ref ao)]) hx hb dL_setOrder_13 hl (by decide) rfl (fun ls hl => ?_)
        refine lv_iconst (v := (1 : Int32)) hx hb dL_setOrder_15 (by decide) ?_
        exact W.iret (v := (1 : Int32)) hx hb hr (fun t ht hW => ⟨⟨(1 : Int32), RR.2, rfl, ⟨rfl, rfl⟩, by rw [ht, hz]; exact hP, va_K.moved hW.alike hK, by rw [hz]; exact hD⟩, hS.F ht⟩) hS.2.2 dL_setOrder_16
      · have hz : zout Int32.toInt64 vo RR.1 = vo := by rw [hk]; rfl
        refine vx_catch (name := zEx 1) hown [⟨0, 10, 13, 21⟩] ⟨0, 10, 17, 13⟩ [] (htab.trans rfl) (fun z hz => by
            rcases List.mem_cons.mp hz with rfl | hz
            · exact Or.inr ⟨by decide, zEx 0, (hts (.classLink RL 21 (zEx 0)) (List.mem_of_getElem? (i := 1) rfl)), hL 1 0 (by decide) (by decide) (by decide)⟩
            exact absurd hz List.not_mem_nil) (by decide) (by decide) (hts (.classLink RL 13 (zEx 1)) (List.mem_of_getElem? (i := 2) rfl)) (zX_cast hX 1 (by decide)) hce hcv hcl ?_
        refine lv_astore (lv' := [(4, .ref q9), (0, .ref (a 0)), (1, .int p1), (2, .int p2), (3, .ref ao)]) hx hb dL_setOrder_17 hl (by decide) rfl (fun ls hl => ?_)
        refine lv_iconst (v := (2 : Int32)) hx hb dL_setOrder_19 (by decide) ?_
        exact W.iret (v := (2 : Int32)) hx hb hr (fun t ht hW => ⟨⟨(2 : Int32), RR.2, rfl, ⟨rfl, rfl⟩, by rw [ht, hz]; exact hP, va_K.moved hW.alike hK, by rw [hz]; exact hD⟩, hS.F ht⟩) hS.2.2 dL_setOrder_20
    · cases hk.symm.trans ev
  · obtain ⟨er, hu⟩ := hw
    subst hu
    rcases hA with ⟨k9, hk9, ek, rfl⟩ | ⟨v9, ev, rfl⟩
    · cases er.symm.trans ek
    obtain rfl : v9 = rr := Sum.inr.inj (ev.symm.trans er)
    refine lv_i2l hx hb dL_setOrder_8 rfl ?_
    refine va_last hx hb hK hP hD hS 0 1 rfl rfl (inB_vp (by decide)) dL_setOrder_9 (fun H0 locs hP hD hS => ?_)
    have hP9 : va_P G vwCl ((ao, zoc tt (zout Int32.toInt64 vo RR.1)) :: wL tt a b d wd fa RR.2.1 hd qc qs bc bs tl rl (RR.2.2.1, RR.2.2.2.1, RR.2.2.2.2.1, RR.2.2.2.2.2.1, RR.2.2.2.2.2.2.1, RR.2.2.2.2.2.2.2.1, RR.2.2.2.2.2.2.2.2.1, RR.2.2.2.2.2.2.2.2.2.1, RR.2.2.2.2.2.2.2.2.2.2.1, RR.2.2.2.2.2.2.2.2.2.2.2.1, RR.2.2.2.2.2.2.2.2.2.2.2.2.1, RR.2.2.2.2.2.2.2.2.2.2.2.2.2.1) q w fr tr g re fi ro im r pk cz lh lp se md RR.2.2.2.2.2.2.2.2.2.2.2.2.2.2) H0 := by rw [er]; exact hP
    have hD9 : va_D A ((ao, zoc tt (zout Int32.toInt64 vo RR.1)) :: wL tt a b d wd fa RR.2.1 hd qc qs bc bs tl rl (RR.2.2.1, RR.2.2.2.1, RR.2.2.2.2.1, RR.2.2.2.2.2.1, RR.2.2.2.2.2.2.1, RR.2.2.2.2.2.2.2.1, RR.2.2.2.2.2.2.2.2.1, RR.2.2.2.2.2.2.2.2.2.1, RR.2.2.2.2.2.2.2.2.2.2.1, RR.2.2.2.2.2.2.2.2.2.2.2.1, RR.2.2.2.2.2.2.2.2.2.2.2.2.1, RR.2.2.2.2.2.2.2.2.2.2.2.2.2.1) q w fr tr g re fi ro im r pk cz lh lp se md RR.2.2.2.2.2.2.2.2.2.2.2.2.2.2) := by rw [er]; exact hD
    refine lv_goto (tgt := 21) hx hb dL_setOrder_10 (by decide) ?_
    refine lv_iconst (v := (0 : Int32)) hx hb dL_setOrder_21 (by decide) ?_
    exact W.iret (v := (0 : Int32)) hx hb hr (fun t ht hW => ⟨⟨(0 : Int32), RR.2, rfl, ⟨rfl, rfl⟩, by rw [ht]; exact hP9, va_K.moved hW.alike hK, hD9⟩, hS.F ht⟩) hS.2.2 dL_setOrder_22

set_option maxHeartbeats 4000000 in
set_option maxRecDepth 100000 in
theorem mL_clearIdle (l : Launch) (G : va_G) (tt : Nat → ClassId) (sa : Nat → Nat) (hlt : l.stackTraces = false) (sz : Nat) (K : Nat) (a : Nat → Nat) (b : Nat → Nat → Nat) (d : Nat → Nat → Nat → Nat) (wd : Nat → Int32) (fa : Nat → Int64) (od hd : Nat → Int32) (qc : Nat → Nat → Int32) (qs : Nat → Int32) (bc : Nat → Nat → Int32) (bs : Nat → Int32) (tl rl : Int32) (H : zH12) (q : zR13) (w fr : Nat → Int64) (tr g re fi : Nat → Int32) (ro im : Int32) (r : zR15) (pk : Int32) (cz : Nat → Int32) (lh : Int32) (lp : Int64) (se : Nat → Int32) (md : Nat → Int64) (ff : Int32) (p1 : Int32) (p2 : Int32) (ao : Nat) (vo : Nat → Int64) (RR : (Nat ⊕ Int32) × (Nat → Int64) × (Nat → Nat → Int32) × (Nat → Nat → Int64) × (Nat → Nat → Int32) × (Nat → Nat → Int32) × (Nat → Nat → Nat → Int32) × (Nat → Nat → Int32) × (Nat → Nat → Nat → Int32) × (Nat → Nat → Int32) × (Nat → Int32) × (Nat → Int32) × Int32 × Int32 × (Nat → Int32) × Int32 × (Nat → Int32) × (Nat → Int32) × (Nat → Int32) × (Nat → Int32) × (Nat → Int32) × (Nat → Int32) × Int32 × Int32 × Int32 × Int32 × Int32 × (Nat → Int64) × (Nat → Int64) × (Nat → Int32) × (Nat → Int32) × (Nat → Int32) × Int32 × Int32 × (Nat → Int32) × Int32 × (Nat → Int32) × (Nat → Int32) × (Nat → Int32) × (Nat → Int32) × (Nat → Int32) × (Nat → Int32) × Int32 × Int32 × Int32 × Int32 × Int32 × (Nat → Int64) × Int32 × Int32 × (Nat → Int64) × Int32) (hF : fX11_clearIdle K wd od hd qc qs bc bs tl rl p1 p2 fa H.1 H.2.1 H.2.2.1 H.2.2.2.1 H.2.2.2.2.1 H.2.2.2.2.2.1 H.2.2.2.2.2.2.1 H.2.2.2.2.2.2.2.1 H.2.2.2.2.2.2.2.2.1 H.2.2.2.2.2.2.2.2.2.1 H.2.2.2.2.2.2.2.2.2.2.1 H.2.2.2.2.2.2.2.2.2.2.2 q.1 q.2.1 q.2.2.1 q.2.2.2.1 q.2.2.2.2.1 q.2.2.2.2.2.1 q.2.2.2.2.2.2.1 q.2.2.2.2.2.2.2.1 q.2.2.2.2.2.2.2.2.1 q.2.2.2.2.2.2.2.2.2.1 q.2.2.2.2.2.2.2.2.2.2.1 q.2.2.2.2.2.2.2.2.2.2.2.1 q.2.2.2.2.2.2.2.2.2.2.2.2 w fr g re fi ro im r.1 r.2.1 r.2.2.1 r.2.2.2.1 r.2.2.2.2.1 r.2.2.2.2.2.1 r.2.2.2.2.2.2.1 r.2.2.2.2.2.2.2.1 r.2.2.2.2.2.2.2.2.1 r.2.2.2.2.2.2.2.2.2.1 r.2.2.2.2.2.2.2.2.2.2.1 r.2.2.2.2.2.2.2.2.2.2.2.1 r.2.2.2.2.2.2.2.2.2.2.2.2.1 r.2.2.2.2.2.2.2.2.2.2.2.2.2.1 r.2.2.2.2.2.2.2.2.2.2.2.2.2.2 pk md ff = some RR) (bb : Int32 × Int32) (hA : zAg [0] 0 RR.1 bb) : Met l yL_clearIdle wsL_clearIdle ({ frames := 8, cells := 2, slots := 12, locals := 189 } : Room) (zPreL G (zTy tt) sa [.ref (a 0), .int p1, .int p2, .ref ao] sz ((ao, zoc tt vo) :: wL tt a b d wd fa od hd qc qs bc bs tl rl H q w fr tr g re fi ro im r pk cz lh lp se md ff)) (va_Qi (fun (r : Int32) (u : (Nat → Int64) × (Nat → Nat → Int32) × (Nat → Nat → Int64) × (Nat → Nat → Int32) × (Nat → Nat → Int32) × (Nat → Nat → Nat → Int32) × (Nat → Nat → Int32) × (Nat → Nat → Nat → Int32) × (Nat → Nat → Int32) × (Nat → Int32) × (Nat → Int32) × Int32 × Int32 × (Nat → Int32) × Int32 × (Nat → Int32) × (Nat → Int32) × (Nat → Int32) × (Nat → Int32) × (Nat → Int32) × (Nat → Int32) × Int32 × Int32 × Int32 × Int32 × Int32 × (Nat → Int64) × (Nat → Int64) × (Nat → Int32) × (Nat → Int32) × (Nat → Int32) × Int32 × Int32 × (Nat → Int32) × Int32 × (Nat → Int32) × (Nat → Int32) × (Nat → Int32) × (Nat → Int32) × (Nat → Int32) × (Nat → Int32) × Int32 × Int32 × Int32 × Int32 × Int32 × (Nat → Int64) × Int32 × Int32 × (Nat → Int64) × Int32) => r = bb.2 ∧ u = RR.2) (zAt G (zTy tt) (va_A ((ao, zoc tt vo) :: wL tt a b d wd fa od hd qc qs bc bs tl rl H q w fr tr g re fi ro im r pk cz lh lp se md ff) sz) (fun u : (Nat → Int64) × (Nat → Nat → Int32) × (Nat → Nat → Int64) × (Nat → Nat → Int32) × (Nat → Nat → Int32) × (Nat → Nat → Nat → Int32) × (Nat → Nat → Int32) × (Nat → Nat → Nat → Int32) × (Nat → Nat → Int32) × (Nat → Int32) × (Nat → Int32) × Int32 × Int32 × (Nat → Int32) × Int32 × (Nat → Int32) × (Nat → Int32) × (Nat → Int32) × (Nat → Int32) × (Nat → Int32) × (Nat → Int32) × Int32 × Int32 × Int32 × Int32 × Int32 × (Nat → Int64) × (Nat → Int64) × (Nat → Int32) × (Nat → Int32) × (Nat → Int32) × Int32 × Int32 × (Nat → Int32) × Int32 × (Nat → Int32) × (Nat → Int32) × (Nat → Int32) × (Nat → Int32) × (Nat → Int32) × (Nat → Int32) × Int32 × Int32 × Int32 × Int32 × Int32 × (Nat → Int64) × Int32 × Int32 × (Nat → Int64) × Int32 => (ao, zoc tt (zout Int32.toInt64 vo RR.1)) :: wL tt a b d wd u.1 od hd qc qs bc bs tl rl (u.2.1, u.2.2.1, u.2.2.2.1, u.2.2.2.2.1, u.2.2.2.2.2.1, u.2.2.2.2.2.2.1, u.2.2.2.2.2.2.2.1, u.2.2.2.2.2.2.2.2.1, u.2.2.2.2.2.2.2.2.2.1, u.2.2.2.2.2.2.2.2.2.2.1, u.2.2.2.2.2.2.2.2.2.2.2.1, u.2.2.2.2.2.2.2.2.2.2.2.2.1) (u.2.2.2.2.2.2.2.2.2.2.2.2.2.1, u.2.2.2.2.2.2.2.2.2.2.2.2.2.2.1, u.2.2.2.2.2.2.2.2.2.2.2.2.2.2.2.1, u.2.2.2.2.2.2.2.2.2.2.2.2.2.2.2.2.1, u.2.2.2.2.2.2.2.2.2.2.2.2.2.2.2.2.2.1, u.2.2.2.2.2.2.2.2.2.2.2.2.2.2.2.2.2.2.1, u.2.2.2.2.2.2.2.2.2.2.2.2.2.2.2.2.2.2.2.1, u.2.2.2.2.2.2.2.2.2.2.2.2.2.2.2.2.2.2.2.2.1, u.2.2.2.2.2.2.2.2.2.2.2.2.2.2.2.2.2.2.2.2.2.1, u.2.2.2.2.2.2.2.2.2.2.2.2.2.2.2.2.2.2.2.2.2.2.1, u.2.2.2.2.2.2.2.2.2.2.2.2.2.2.2.2.2.2.2.2.2.2.2.1, u.2.2.2.2.2.2.2.2.2.2.2.2.2.2.2.2.2.2.2.2.2.2.2.2.1, u.2.2.2.2.2.2.2.2.2.2.2.2.2.2.2.2.2.2.2.2.2.2.2.2.2.1) u.2.2.2.2.2.2.2.2.2.2.2.2.2.2.2.2.2.2.2.2.2.2.2.2.2.2.1 u.2.2.2.2.2.2.2.2.2.2.2.2.2.2.2.2.2.2.2.2.2.2.2.2.2.2.2.1 tr u.2.2.2.2.2.2.2.2.2.2.2.2.2.2.2.2.2.2.2.2.2.2.2.2.2.2.2.2.1 u.2.2.2.2.2.2.2.2.2.2.2.2.2.2.2.2.2.2.2.2.2.2.2.2.2.2.2.2.2.1 u.2.2.2.2.2.2.2.2.2.2.2.2.2.2.2.2.2.2.2.2.2.2.2.2.2.2.2.2.2.2.1 u.2.2.2.2.2.2.2.2.2.2.2.2.2.2.2.2.2.2.2.2.2.2.2.2.2.2.2.2.2.2.2.1 u.2.2.2.2.2.2.2.2.2.2.2.2.2.2.2.2.2.2.2.2.2.2.2.2.2.2.2.2.2.2.2.2.1 (u.2.2.2.2.2.2.2.2.2.2.2.2.2.2.2.2.2.2.2.2.2.2.2.2.2.2.2.2.2.2.2.2.2.1, u.2.2.2.2.2.2.2.2.2.2.2.2.2.2.2.2.2.2.2.2.2.2.2.2.2.2.2.2.2.2.2.2.2.2.1, u.2.2.2.2.2.2.2.2.2.2.2.2.2.2.2.2.2.2.2.2.2.2.2.2.2.2.2.2.2.2.2.2.2.2.2.1, u.2.2.2.2.2.2.2.2.2.2.2.2.2.2.2.2.2.2.2.2.2.2.2.2.2.2.2.2.2.2.2.2.2.2.2.2.1, u.2.2.2.2.2.2.2.2.2.2.2.2.2.2.2.2.2.2.2.2.2.2.2.2.2.2.2.2.2.2.2.2.2.2.2.2.2.1, u.2.2.2.2.2.2.2.2.2.2.2.2.2.2.2.2.2.2.2.2.2.2.2.2.2.2.2.2.2.2.2.2.2.2.2.2.2.2.1, u.2.2.2.2.2.2.2.2.2.2.2.2.2.2.2.2.2.2.2.2.2.2.2.2.2.2.2.2.2.2.2.2.2.2.2.2.2.2.2.1, u.2.2.2.2.2.2.2.2.2.2.2.2.2.2.2.2.2.2.2.2.2.2.2.2.2.2.2.2.2.2.2.2.2.2.2.2.2.2.2.2.1, u.2.2.2.2.2.2.2.2.2.2.2.2.2.2.2.2.2.2.2.2.2.2.2.2.2.2.2.2.2.2.2.2.2.2.2.2.2.2.2.2.2.1, u.2.2.2.2.2.2.2.2.2.2.2.2.2.2.2.2.2.2.2.2.2.2.2.2.2.2.2.2.2.2.2.2.2.2.2.2.2.2.2.2.2.2.1, u.2.2.2.2.2.2.2.2.2.2.2.2.2.2.2.2.2.2.2.2.2.2.2.2.2.2.2.2.2.2.2.2.2.2.2.2.2.2.2.2.2.2.2.1, u.2.2.2.2.2.2.2.2.2.2.2.2.2.2.2.2.2.2.2.2.2.2.2.2.2.2.2.2.2.2.2.2.2.2.2.2.2.2.2.2.2.2.2.2.1, u.2.2.2.2.2.2.2.2.2.2.2.2.2.2.2.2.2.2.2.2.2.2.2.2.2.2.2.2.2.2.2.2.2.2.2.2.2.2.2.2.2.2.2.2.2.1, u.2.2.2.2.2.2.2.2.2.2.2.2.2.2.2.2.2.2.2.2.2.2.2.2.2.2.2.2.2.2.2.2.2.2.2.2.2.2.2.2.2.2.2.2.2.2.1, u.2.2.2.2.2.2.2.2.2.2.2.2.2.2.2.2.2.2.2.2.2.2.2.2.2.2.2.2.2.2.2.2.2.2.2.2.2.2.2.2.2.2.2.2.2.2.2.1) u.2.2.2.2.2.2.2.2.2.2.2.2.2.2.2.2.2.2.2.2.2.2.2.2.2.2.2.2.2.2.2.2.2.2.2.2.2.2.2.2.2.2.2.2.2.2.2.2.1 cz lh lp se u.2.2.2.2.2.2.2.2.2.2.2.2.2.2.2.2.2.2.2.2.2.2.2.2.2.2.2.2.2.2.2.2.2.2.2.2.2.2.2.2.2.2.2.2.2.2.2.2.2.1 u.2.2.2.2.2.2.2.2.2.2.2.2.2.2.2.2.2.2.2.2.2.2.2.2.2.2.2.2.2.2.2.2.2.2.2.2.2.2.2.2.2.2.2.2.2.2.2.2.2.2)) (va_A ((ao, zoc tt vo) :: wL tt a b d wd fa od hd qc qs bc bs tl rl H q w fr tr g re fi ro im r pk cz lh lp se md ff) sz)) 2 12 (va_A ((ao, zoc tt vo) :: wL tt a b d wd fa od hd qc qs bc bs tl rl H q w fr tr g re fi ro im r pk cz lh lp se md ff) sz) := by
  refine va_MetW (cc := cL_clearIdle) (maxL := 5) (ret := (some .int)) (hh := [(0, 10, 13, 21)]) (by decide +kernel) rfl ?_
  intro p e s m args below meth c s₁ B hml hv
  obtain ⟨⟨rfl, hsz, hP, hK, hD0, hN, hX⟩, hL⟩ := hv
  have hx := B.exec
  have hb := B.bytes
  have hr := B.returns
  have hts := atoms_spec (ws := wsL_clearIdle) B.pre
  have hown : s.vm.findClass RL = some m.cls := findClass_of_methodNamed B.named
  have hlocks := B.notSynchronized
  have htab : c.exceptionTable.toList = tableOf [(0, 10, 13, 21)] := vx_table (x := yL_clearIdle) B (hts _ List.mem_cons_self)
  subst hsz
  have hD := hD0.self (sz := s.heap.size)
  generalize hAe : va_A ((ao, zoc tt vo) :: wL tt a b d wd fa od hd qc qs bc bs tl rl H q w fr tr g re fi ro im r pk cz lh lp se md ff) s.heap.size = A at hD hX ⊢
  have hA9 : ∀ q : Nat, s.heap.size ≤ q → A q := fun q h => by rw [← hAe]; exact Or.inr h
  have hl := lv_entry ([.ref (a 0), .int p1, .int p2, .ref ao]) (n := 5) (Nat.le_of_ble_eq_true rfl)
  rw [lg_entry_eq]
  generalize (lg_sl ([.ref (a 0), .int p1, .int p2, .ref ao]) ++ List.replicate (5 - (lg_sl ([.ref (a 0), .int p1, .int p2, .ref ao])).length) Slot.unset).toArray = ls at hl ⊢
  have hl : lv_has ls 5 [(0, .ref (a 0)), (1, .int p1), (2, .int p2), (3, .ref ao)] := hl
  obtain ⟨H0, hHe⟩ : ∃ H : Heap, s.heap = H := ⟨_, rfl⟩
  have hS : va_S A s.heap H0 [] := by rw [← hHe]; exact va_S.rf
  rw [hHe] at hP ⊢
  have hP := zP_perm (List.perm_append_comm (l₁ := [(ao, zoc tt vo)]) (l₂ := wL tt a b d wd fa od hd qc qs bc bs tl rl H q w fr tr g re fi ro im r pk cz lh lp se md ff)) hP
  have hD := zD_perm (List.perm_append_comm (l₁ := [(ao, zoc tt vo)]) (l₂ := wL tt a b d wd fa od hd qc qs bc bs tl rl H q w fr tr g re fi ro im r pk cz lh lp se md ff)) hD
  refine lv_aload_n hx hb dL_clearIdle_0 rfl (lv_at hl 3 rfl) ?_
  refine lv_iconst (v := (0 : Int32)) hx hb dL_clearIdle_1 (by decide) ?_
  refine lv_aload_n hx hb dL_clearIdle_2 rfl (lv_at hl 0 rfl) ?_
  refine lv_iload_n hx hb dL_clearIdle_3 rfl (lv_at hl 1 rfl) ?_
  refine lv_iload_n hx hb dL_clearIdle_4 rfl (lv_at hl 2 rfl) ?_
  refine z_callXi (wc := wL tt a b d wd fa od hd qc qs bc bs tl rl H q w fr tr g re fi ro im r pk cz lh lp se md ff) (wr := [(ao, zoc tt vo)]) (As := [.int p1, .int p2]) (rest := [.int (0 : Int32), .ref ao]) (ci := 10) ⟨hx, hb, hml, hown, hts⟩ hK hN hX hP hD hS hA9 (nX11_clearIdle l G tt sa hlt H0.size K a b d wd fa od hd qc qs bc bs tl rl H q w fr tr g re fi ro im r pk cz lh lp se md ff p1 p2 RR hF) (cwV 2 hts gL_clearIdle_X11_clearIdle rfl rfl rfl (by decide +kernel) ⟨Nat.le_of_ble_eq_true rfl, Nat.le_of_ble_eq_true rfl⟩) rfl rfl rfl hl.1 rfl (Nat.le_of_ble_eq_true rfl) dL_clearIdle_5 ⟨Nat.le_of_ble_eq_true rfl, Nat.le_of_ble_eq_true rfl⟩ (fun k ce q9 H0 locs hk hP hD hS hce hcv hcl => ?_) (fun rr u H0 locs hw hP hD hS => ?_)
  · rcases hA with ⟨k9, hk9, ek, rfl⟩ | ⟨v9, ev, rfl⟩
    · obtain rfl : k9 = k := Sum.inl.inj (ek.symm.trans hk)
      have hk9 : k9 = 0 := by simpa using hk9
      subst hk9
      have hz : zout Int32.toInt64 vo RR.1 = vo := by rw [hk]; rfl
      refine vx_catch (name := zEx 0) hown [] ⟨0, 10, 13, 21⟩ [] (htab.trans rfl) (fun z hz => by
          exact absurd hz List.not_mem_nil) (by decide) (by decide) (hts (.classLink RL 21 (zEx 0)) (List.mem_of_getElem? (i := 1) rfl)) (zX_cast hX 0 (by decide)) hce hcv hcl ?_
      refine lv_astore (lv' := [(4, .ref q9), (0, .ref (a 0)), (1, .int p1), (2, .int p2), (3, .ref ao)]) hx hb dL_clearIdle_13 hl (by decide) rfl (fun ls hl => ?_)
      refine lv_iconst (v := (1 : Int32)) hx hb dL_clearIdle_15 (by decide) ?_
      exact W.iret (v := (1 : Int32)) hx hb hr (fun t ht hW => ⟨⟨(1 : Int32), RR.2, rfl, ⟨rfl, rfl⟩, by rw [ht, hz]; exact hP, va_K.moved hW.alike hK, by rw [hz]; exact hD⟩, hS.F ht⟩) hS.2.2 dL_clearIdle_16
    · cases hk.symm.trans ev
  · obtain ⟨er, hu⟩ := hw
    subst hu
    rcases hA with ⟨k9, hk9, ek, rfl⟩ | ⟨v9, ev, rfl⟩
    · cases er.symm.trans ek
    obtain rfl : v9 = rr := Sum.inr.inj (ev.symm.trans er)
    refine lv_i2l hx hb dL_clearIdle_8 rfl ?_
    refine va_last hx hb hK hP hD hS 0 1 rfl rfl (inB_vp (by decide)) dL_clearIdle_9 (fun H0 locs hP hD hS => ?_)
    have hP9 : va_P G vwCl ((ao, zoc tt (zout Int32.toInt64 vo RR.1)) :: wL tt a b d wd RR.2.1 od hd qc qs bc bs tl rl (RR.2.2.1, RR.2.2.2.1, RR.2.2.2.2.1, RR.2.2.2.2.2.1, RR.2.2.2.2.2.2.1, RR.2.2.2.2.2.2.2.1, RR.2.2.2.2.2.2.2.2.1, RR.2.2.2.2.2.2.2.2.2.1, RR.2.2.2.2.2.2.2.2.2.2.1, RR.2.2.2.2.2.2.2.2.2.2.2.1, RR.2.2.2.2.2.2.2.2.2.2.2.2.1, RR.2.2.2.2.2.2.2.2.2.2.2.2.2.1) (RR.2.2.2.2.2.2.2.2.2.2.2.2.2.2.1, RR.2.2.2.2.2.2.2.2.2.2.2.2.2.2.2.1, RR.2.2.2.2.2.2.2.2.2.2.2.2.2.2.2.2.1, RR.2.2.2.2.2.2.2.2.2.2.2.2.2.2.2.2.2.1, RR.2.2.2.2.2.2.2.2.2.2.2.2.2.2.2.2.2.2.1, RR.2.2.2.2.2.2.2.2.2.2.2.2.2.2.2.2.2.2.2.1, RR.2.2.2.2.2.2.2.2.2.2.2.2.2.2.2.2.2.2.2.2.1, RR.2.2.2.2.2.2.2.2.2.2.2.2.2.2.2.2.2.2.2.2.2.1, RR.2.2.2.2.2.2.2.2.2.2.2.2.2.2.2.2.2.2.2.2.2.2.1, RR.2.2.2.2.2.2.2.2.2.2.2.2.2.2.2.2.2.2.2.2.2.2.2.1, RR.2.2.2.2.2.2.2.2.2.2.2.2.2.2.2.2.2.2.2.2.2.2.2.2.1, RR.2.2.2.2.2.2.2.2.2.2.2.2.2.2.2.2.2.2.2.2.2.2.2.2.2.1, RR.2.2.2.2.2.2.2.2.2.2.2.2.2.2.2.2.2.2.2.2.2.2.2.2.2.2.1) RR.2.2.2.2.2.2.2.2.2.2.2.2.2.2.2.2.2.2.2.2.2.2.2.2.2.2.2.1 RR.2.2.2.2.2.2.2.2.2.2.2.2.2.2.2.2.2.2.2.2.2.2.2.2.2.2.2.2.1 tr RR.2.2.2.2.2.2.2.2.2.2.2.2.2.2.2.2.2.2.2.2.2.2.2.2.2.2.2.2.2.1 RR.2.2.2.2.2.2.2.2.2.2.2.2.2.2.2.2.2.2.2.2.2.2.2.2.2.2.2.2.2.2.1 RR.2.2.2.2.2.2.2.2.2.2.2.2.2.2.2.2.2.2.2.2.2.2.2.2.2.2.2.2.2.2.2.1 RR.2.2.2.2.2.2.2.2.2.2.2.2.2.2.2.2.2.2.2.2.2.2.2.2.2.2.2.2.2.2.2.2.1 RR.2.2.2.2.2.2.2.2.2.2.2.2.2.2.2.2.2.2.2.2.2.2.2.2.2.2.2.2.2.2.2.2.2.1 (RR.2.2.2.2.2.2.2.2.2.2.2.2.2.2.2.2.2.2.2.2.2.2.2.2.2.2.2.2.2.2.2.2.2.2.1, RR.2.2.2.2.2.2.2.2.2.2.2.2.2.2.2.2.2.2.2.2.2.2.2.2.2.2.2.2.2.2.2.2.2.2.2.1, RR.2.2.2.2.2.2.2.2.2.2.2.2.2.2.2.2.2.2.2.2.2.2.2.2.2.2.2.2.2.2.2.2.2.2.2.2.1, RR.2.2.2.2.2.2.2.2.2.2.2.2.2.2.2.2.2.2.2.2.2.2.2.2.2.2.2.2.2.2.2.2.2.2.2.2.2.1, RR.2.2.2.2.2.2.2.2.2.2.2.2.2.2.2.2.2.2.2.2.2.2.2.2.2.2.2.2.2.2.2.2.2.2.2.2.2.2.1, RR.2.2.2.2.2.2.2.2.2.2.2.2.2.2.2.2.2.2.2.2.2.2.2.2.2.2.2.2.2.2.2.2.2.2.2.2.2.2.2.1, RR.2.2.2.2.2.2.2.2.2.2.2.2.2.2.2.2.2.2.2.2.2.2.2.2.2.2.2.2.2.2.2.2.2.2.2.2.2.2.2.2.1, RR.2.2.2.2.2.2.2.2.2.2.2.2.2.2.2.2.2.2.2.2.2.2.2.2.2.2.2.2.2.2.2.2.2.2.2.2.2.2.2.2.2.1, RR.2.2.2.2.2.2.2.2.2.2.2.2.2.2.2.2.2.2.2.2.2.2.2.2.2.2.2.2.2.2.2.2.2.2.2.2.2.2.2.2.2.2.1, RR.2.2.2.2.2.2.2.2.2.2.2.2.2.2.2.2.2.2.2.2.2.2.2.2.2.2.2.2.2.2.2.2.2.2.2.2.2.2.2.2.2.2.2.1, RR.2.2.2.2.2.2.2.2.2.2.2.2.2.2.2.2.2.2.2.2.2.2.2.2.2.2.2.2.2.2.2.2.2.2.2.2.2.2.2.2.2.2.2.2.1, RR.2.2.2.2.2.2.2.2.2.2.2.2.2.2.2.2.2.2.2.2.2.2.2.2.2.2.2.2.2.2.2.2.2.2.2.2.2.2.2.2.2.2.2.2.2.1, RR.2.2.2.2.2.2.2.2.2.2.2.2.2.2.2.2.2.2.2.2.2.2.2.2.2.2.2.2.2.2.2.2.2.2.2.2.2.2.2.2.2.2.2.2.2.2.1, RR.2.2.2.2.2.2.2.2.2.2.2.2.2.2.2.2.2.2.2.2.2.2.2.2.2.2.2.2.2.2.2.2.2.2.2.2.2.2.2.2.2.2.2.2.2.2.2.1, RR.2.2.2.2.2.2.2.2.2.2.2.2.2.2.2.2.2.2.2.2.2.2.2.2.2.2.2.2.2.2.2.2.2.2.2.2.2.2.2.2.2.2.2.2.2.2.2.2.1) RR.2.2.2.2.2.2.2.2.2.2.2.2.2.2.2.2.2.2.2.2.2.2.2.2.2.2.2.2.2.2.2.2.2.2.2.2.2.2.2.2.2.2.2.2.2.2.2.2.2.1 cz lh lp se RR.2.2.2.2.2.2.2.2.2.2.2.2.2.2.2.2.2.2.2.2.2.2.2.2.2.2.2.2.2.2.2.2.2.2.2.2.2.2.2.2.2.2.2.2.2.2.2.2.2.2.1 RR.2.2.2.2.2.2.2.2.2.2.2.2.2.2.2.2.2.2.2.2.2.2.2.2.2.2.2.2.2.2.2.2.2.2.2.2.2.2.2.2.2.2.2.2.2.2.2.2.2.2.2) H0 := by rw [er]; exact hP
    have hD9 : va_D A ((ao, zoc tt (zout Int32.toInt64 vo RR.1)) :: wL tt a b d wd RR.2.1 od hd qc qs bc bs tl rl (RR.2.2.1, RR.2.2.2.1, RR.2.2.2.2.1, RR.2.2.2.2.2.1, RR.2.2.2.2.2.2.1, RR.2.2.2.2.2.2.2.1, RR.2.2.2.2.2.2.2.2.1, RR.2.2.2.2.2.2.2.2.2.1, RR.2.2.2.2.2.2.2.2.2.2.1, RR.2.2.2.2.2.2.2.2.2.2.2.1, RR.2.2.2.2.2.2.2.2.2.2.2.2.1, RR.2.2.2.2.2.2.2.2.2.2.2.2.2.1) (RR.2.2.2.2.2.2.2.2.2.2.2.2.2.2.1, RR.2.2.2.2.2.2.2.2.2.2.2.2.2.2.2.1, RR.2.2.2.2.2.2.2.2.2.2.2.2.2.2.2.2.1, RR.2.2.2.2.2.2.2.2.2.2.2.2.2.2.2.2.2.1, RR.2.2.2.2.2.2.2.2.2.2.2.2.2.2.2.2.2.2.1, RR.2.2.2.2.2.2.2.2.2.2.2.2.2.2.2.2.2.2.2.1, RR.2.2.2.2.2.2.2.2.2.2.2.2.2.2.2.2.2.2.2.2.1, RR.2.2.2.2.2.2.2.2.2.2.2.2.2.2.2.2.2.2.2.2.2.1, RR.2.2.2.2.2.2.2.2.2.2.2.2.2.2.2.2.2.2.2.2.2.2.1, RR.2.2.2.2.2.2.2.2.2.2.2.2.2.2.2.2.2.2.2.2.2.2.2.1, RR.2.2.2.2.2.2.2.2.2.2.2.2.2.2.2.2.2.2.2.2.2.2.2.2.1, RR.2.2.2.2.2.2.2.2.2.2.2.2.2.2.2.2.2.2.2.2.2.2.2.2.2.1, RR.2.2.2.2.2.2.2.2.2.2.2.2.2.2.2.2.2.2.2.2.2.2.2.2.2.2.1) RR.2.2.2.2.2.2.2.2.2.2.2.2.2.2.2.2.2.2.2.2.2.2.2.2.2.2.2.1 RR.2.2.2.2.2.2.2.2.2.2.2.2.2.2.2.2.2.2.2.2.2.2.2.2.2.2.2.2.1 tr RR.2.2.2.2.2.2.2.2.2.2.2.2.2.2.2.2.2.2.2.2.2.2.2.2.2.2.2.2.2.1 RR.2.2.2.2.2.2.2.2.2.2.2.2.2.2.2.2.2.2.2.2.2.2.2.2.2.2.2.2.2.2.1 RR.2.2.2.2.2.2.2.2.2.2.2.2.2.2.2.2.2.2.2.2.2.2.2.2.2.2.2.2.2.2.2.1 RR.2.2.2.2.2.2.2.2.2.2.2.2.2.2.2.2.2.2.2.2.2.2.2.2.2.2.2.2.2.2.2.2.1 RR.2.2.2.2.2.2.2.2.2.2.2.2.2.2.2.2.2.2.2.2.2.2.2.2.2.2.2.2.2.2.2.2.2.1 (RR.2.2.2.2.2.2.2.2.2.2.2.2.2.2.2.2.2.2.2.2.2.2.2.2.2.2.2.2.2.2.2.2.2.2.1, RR.2.2.2.2.2.2.2.2.2.2.2.2.2.2.2.2.2.2.2.2.2.2.2.2.2.2.2.2.2.2.2.2.2.2.2.1, RR.2.2.2.2.2.2.2.2.2.2.2.2.2.2.2.2.2.2.2.2.2.2.2.2.2.2.2.2.2.2.2.2.2.2.2.2.1, RR.2.2.2.2.2.2.2.2.2.2.2.2.2.2.2.2.2.2.2.2.2.2.2.2.2.2.2.2.2.2.2.2.2.2.2.2.2.1, RR.2.2.2.2.2.2.2.2.2.2.2.2.2.2.2.2.2.2.2.2.2.2.2.2.2.2.2.2.2.2.2.2.2.2.2.2.2.2.1, RR.2.2.2.2.2.2.2.2.2.2.2.2.2.2.2.2.2.2.2.2.2.2.2.2.2.2.2.2.2.2.2.2.2.2.2.2.2.2.2.1, RR.2.2.2.2.2.2.2.2.2.2.2.2.2.2.2.2.2.2.2.2.2.2.2.2.2.2.2.2.2.2.2.2.2.2.2.2.2.2.2.2.1, RR.2.2.2.2.2.2.2.2.2.2.2.2.2.2.2.2.2.2.2.2.2.2.2.2.2.2.2.2.2.2.2.2.2.2.2.2.2.2.2.2.2.1, RR.2.2.2.2.2.2.2.2.2.2.2.2.2.2.2.2.2.2.2.2.2.2.2.2.2.2.2.2.2.2.2.2.2.2.2.2.2.2.2.2.2.2.1, RR.2.2.2.2.2.2.2.2.2.2.2.2.2.2.2.2.2.2.2.2.2.2.2.2.2.2.2.2.2.2.2.2.2.2.2.2.2.2.2.2.2.2.2.1, RR.2.2.2.2.2.2.2.2.2.2.2.2.2.2.2.2.2.2.2.2.2.2.2.2.2.2.2.2.2.2.2.2.2.2.2.2.2.2.2.2.2.2.2.2.1, RR.2.2.2.2.2.2.2.2.2.2.2.2.2.2.2.2.2.2.2.2.2.2.2.2.2.2.2.2.2.2.2.2.2.2.2.2.2.2.2.2.2.2.2.2.2.1, RR.2.2.2.2.2.2.2.2.2.2.2.2.2.2.2.2.2.2.2.2.2.2.2.2.2.2.2.2.2.2.2.2.2.2.2.2.2.2.2.2.2.2.2.2.2.2.1, RR.2.2.2.2.2.2.2.2.2.2.2.2.2.2.2.2.2.2.2.2.2.2.2.2.2.2.2.2.2.2.2.2.2.2.2.2.2.2.2.2.2.2.2.2.2.2.2.1, RR.2.2.2.2.2.2.2.2.2.2.2.2.2.2.2.2.2.2.2.2.2.2.2.2.2.2.2.2.2.2.2.2.2.2.2.2.2.2.2.2.2.2.2.2.2.2.2.2.1) RR.2.2.2.2.2.2.2.2.2.2.2.2.2.2.2.2.2.2.2.2.2.2.2.2.2.2.2.2.2.2.2.2.2.2.2.2.2.2.2.2.2.2.2.2.2.2.2.2.2.1 cz lh lp se RR.2.2.2.2.2.2.2.2.2.2.2.2.2.2.2.2.2.2.2.2.2.2.2.2.2.2.2.2.2.2.2.2.2.2.2.2.2.2.2.2.2.2.2.2.2.2.2.2.2.2.1 RR.2.2.2.2.2.2.2.2.2.2.2.2.2.2.2.2.2.2.2.2.2.2.2.2.2.2.2.2.2.2.2.2.2.2.2.2.2.2.2.2.2.2.2.2.2.2.2.2.2.2.2) := by rw [er]; exact hD
    refine lv_goto (tgt := 17) hx hb dL_clearIdle_10 (by decide) ?_
    refine lv_iconst (v := (0 : Int32)) hx hb dL_clearIdle_17 (by decide) ?_
    exact W.iret (v := (0 : Int32)) hx hb hr (fun t ht hW => ⟨⟨(0 : Int32), RR.2, rfl, ⟨rfl, rfl⟩, by rw [ht]; exact hP9, va_K.moved hW.alike hK, hD9⟩, hS.F ht⟩) hS.2.2 dL_clearIdle_18

set_option maxHeartbeats 4000000 in
set_option maxRecDepth 100000 in
theorem mL_addRule (l : Launch) (G : va_G) (tt : Nat → ClassId) (sa : Nat → Nat) (hlt : l.stackTraces = false) (sz : Nat) (K : Nat) (a : Nat → Nat) (b : Nat → Nat → Nat) (d : Nat → Nat → Nat → Nat) (wd : Nat → Int32) (fa : Nat → Int64) (od hd : Nat → Int32) (qc : Nat → Nat → Int32) (qs : Nat → Int32) (bc : Nat → Nat → Int32) (bs : Nat → Int32) (tl rl : Int32) (H : zH12) (q : zR13) (w fr : Nat → Int64) (tr g re fi : Nat → Int32) (ro im : Int32) (r : zR15) (pk : Int32) (cz : Nat → Int32) (lh : Int32) (lp : Int64) (se : Nat → Int32) (md : Nat → Int64) (ff : Int32) (p1 : Int32) (p2 : Int32) (p3 : Int32) (p4 : Int32) (ao : Nat) (vo : Nat → Int64) (RR : (Nat ⊕ Int32) × (Nat → Int32) × (Nat → Int32) × Int32 × (Nat → Nat → Int32) × (Nat → Nat → Int64) × (Nat → Nat → Int32) × (Nat → Nat → Int32) × (Nat → Nat → Nat → Int32) × (Nat → Nat → Int32) × (Nat → Nat → Nat → Int32) × (Nat → Nat → Int32) × (Nat → Int32) × (Nat → Int32) × Int32 × Int32 × Int32 × Int32) (hF : fX11_addRule K wd fa od qc qs bc tl p1 p2 p3 p4 hd bs rl H.1 H.2.1 H.2.2.1 H.2.2.2.1 H.2.2.2.2.1 H.2.2.2.2.2.1 H.2.2.2.2.2.2.1 H.2.2.2.2.2.2.2.1 H.2.2.2.2.2.2.2.2.1 H.2.2.2.2.2.2.2.2.2.1 H.2.2.2.2.2.2.2.2.2.2.1 H.2.2.2.2.2.2.2.2.2.2.2 im ff = some RR) (bb : Int32 × Int32) (hA : zAg [0, 1, 2] 0 RR.1 bb) : Met l yL_addRule wsL_addRule ({ frames := 8, cells := 3, slots := 18, locals := 138 } : Room) (zPreL G (zTy tt) sa [.ref (a 0), .int p1, .int p2, .int p3, .int p4, .ref ao] sz ((ao, zoc tt vo) :: wL tt a b d wd fa od hd qc qs bc bs tl rl H q w fr tr g re fi ro im r pk cz lh lp se md ff)) (va_Qi (fun (r : Int32) (u : (Nat → Int32) × (Nat → Int32) × Int32 × (Nat → Nat → Int32) × (Nat → Nat → Int64) × (Nat → Nat → Int32) × (Nat → Nat → Int32) × (Nat → Nat → Nat → Int32) × (Nat → Nat → Int32) × (Nat → Nat → Nat → Int32) × (Nat → Nat → Int32) × (Nat → Int32) × (Nat → Int32) × Int32 × Int32 × Int32 × Int32) => r = bb.2 ∧ u = RR.2) (zAt G (zTy tt) (va_A ((ao, zoc tt vo) :: wL tt a b d wd fa od hd qc qs bc bs tl rl H q w fr tr g re fi ro im r pk cz lh lp se md ff) sz) (fun u : (Nat → Int32) × (Nat → Int32) × Int32 × (Nat → Nat → Int32) × (Nat → Nat → Int64) × (Nat → Nat → Int32) × (Nat → Nat → Int32) × (Nat → Nat → Nat → Int32) × (Nat → Nat → Int32) × (Nat → Nat → Nat → Int32) × (Nat → Nat → Int32) × (Nat → Int32) × (Nat → Int32) × Int32 × Int32 × Int32 × Int32 => (ao, zoc tt (zout Int32.toInt64 vo RR.1)) :: wL tt a b d wd fa od u.1 qc qs bc u.2.1 tl u.2.2.1 (u.2.2.2.1, u.2.2.2.2.1, u.2.2.2.2.2.1, u.2.2.2.2.2.2.1, u.2.2.2.2.2.2.2.1, u.2.2.2.2.2.2.2.2.1, u.2.2.2.2.2.2.2.2.2.1, u.2.2.2.2.2.2.2.2.2.2.1, u.2.2.2.2.2.2.2.2.2.2.2.1, u.2.2.2.2.2.2.2.2.2.2.2.2.1, u.2.2.2.2.2.2.2.2.2.2.2.2.2.1, u.2.2.2.2.2.2.2.2.2.2.2.2.2.2.1) q w fr tr g re fi ro u.2.2.2.2.2.2.2.2.2.2.2.2.2.2.2.1 r pk cz lh lp se md u.2.2.2.2.2.2.2.2.2.2.2.2.2.2.2.2)) (va_A ((ao, zoc tt vo) :: wL tt a b d wd fa od hd qc qs bc bs tl rl H q w fr tr g re fi ro im r pk cz lh lp se md ff) sz)) 3 18 (va_A ((ao, zoc tt vo) :: wL tt a b d wd fa od hd qc qs bc bs tl rl H q w fr tr g re fi ro im r pk cz lh lp se md ff) sz) := by
  refine va_MetW (cc := cL_addRule) (maxL := 7) (ret := (some .int)) (hh := [(0, 14, 17, 21), (0, 14, 21, 13), (0, 14, 25, 15)]) (by decide +kernel) rfl ?_
  intro p e s m args below meth c s₁ B hml hv
  obtain ⟨⟨rfl, hsz, hP, hK, hD0, hN, hX⟩, hL⟩ := hv
  have hx := B.exec
  have hb := B.bytes
  have hr := B.returns
  have hts := atoms_spec (ws := wsL_addRule) B.pre
  have hown : s.vm.findClass RL = some m.cls := findClass_of_methodNamed B.named
  have hlocks := B.notSynchronized
  have htab : c.exceptionTable.toList = tableOf [(0, 14, 17, 21), (0, 14, 21, 13), (0, 14, 25, 15)] := vx_table (x := yL_addRule) B (hts _ List.mem_cons_self)
  subst hsz
  have hD := hD0.self (sz := s.heap.size)
  generalize hAe : va_A ((ao, zoc tt vo) :: wL tt a b d wd fa od hd qc qs bc bs tl rl H q w fr tr g re fi ro im r pk cz lh lp se md ff) s.heap.size = A at hD hX ⊢
  have hA9 : ∀ q : Nat, s.heap.size ≤ q → A q := fun q h => by rw [← hAe]; exact Or.inr h
  have hl := lv_entry ([.ref (a 0), .int p1, .int p2, .int p3, .int p4, .ref ao]) (n := 7) (Nat.le_of_ble_eq_true rfl)
  rw [lg_entry_eq]
  generalize (lg_sl ([.ref (a 0), .int p1, .int p2, .int p3, .int p4, .ref ao]) ++ List.replicate (7 - (lg_sl ([.ref (a 0), .int p1, .int p2, .int p3, .int p4, .ref ao])).length) Slot.unset).toArray = ls at hl ⊢
  have hl : lv_has ls 7 [(0, .ref (a 0)), (1, .int p1), (2, .int p2), (3, .int p3), (4, .int p4), (5, .ref ao)] := hl
  obtain ⟨H0, hHe⟩ : ∃ H : Heap, s.heap = H := ⟨_, rfl⟩
  have hS : va_S A s.heap H0 [] := by rw [← hHe]; exact va_S.rf
  rw [hHe] at hP ⊢
  have hP := zP_perm (List.perm_append_comm (l₁ := [(ao, zoc tt vo)]) (l₂ := wL tt a b d wd fa od hd qc qs bc bs tl rl H q w fr tr g re fi ro im r pk cz lh lp se md ff)) hP
  have hD := zD_perm (List.perm_append_comm (l₁ := [(ao, zoc tt vo)]) (l₂ := wL tt a b d wd fa od hd qc qs bc bs tl rl H q w fr tr g re fi ro im r pk cz lh lp se md ff)) hD
  refine lv_aload hx hb dL_addRule_0 (lv_at hl 5 rfl) ?_
  refine lv_iconst (v := (0 : Int32)) hx hb dL_addRule_2 (by decide) ?_
  refine lv_aload_n hx hb dL_addRule_3 rfl (lv_at hl 0 rfl) ?_
  refine lv_iload_n hx hb dL_addRule_4 rfl (lv_at hl 1 rfl) ?_
  refine lv_iload_n hx hb dL_addRule_5 rfl (lv_at hl 2 rfl) ?_
  refine lv_iload_n hx hb dL_addRule_6 rfl (lv_at hl 3 rfl) ?_
  refine lv_iload hx hb dL_addRule_7 (lv_at hl 4 rfl) ?_
  refine z_callXi (wc := wL tt a b d wd fa od hd qc qs bc bs tl rl H q w fr tr g re fi ro im r pk cz lh lp se md ff) (wr := [(ao, zoc tt vo)]) (As := [.int p1, .int p2, .int p3, .int p4]) (rest := [.int (0 : Int32), .ref ao]) (ci := 10) ⟨hx, hb, hml, hown, hts⟩ hK hN hX hP hD hS hA9 (nX11_addRule l G tt sa hlt H0.size K a b d wd fa od hd qc qs bc bs tl rl H q w fr tr g re fi ro im r pk cz lh lp se md ff p1 p2 p3 p4 RR hF) (cwV 4 hts gL_addRule_X11_addRule rfl rfl rfl (by decide +kernel) ⟨Nat.le_of_ble_eq_true rfl, Nat.le_of_ble_eq_true rfl⟩) rfl rfl rfl hl.1 rfl (Nat.le_of_ble_eq_true rfl) dL_addRule_9 ⟨Nat.le_of_ble_eq_true rfl, Nat.le_of_ble_eq_true rfl⟩ (fun k ce q9 H0 locs hk hP hD hS hce hcv hcl => ?_) (fun rr u H0 locs hw hP hD hS => ?_)
  · rcases hA with ⟨k9, hk9, ek, rfl⟩ | ⟨v9, ev, rfl⟩
    · obtain rfl : k9 = k := Sum.inl.inj (ek.symm.trans hk)
      have hk9 : k9 = 0 ∨ k9 = 1 ∨ k9 = 2 := by simpa using hk9
      rcases hk9 with rfl | rfl | rfl
      · have hz : zout Int32.toInt64 vo RR.1 = vo := by rw [hk]; rfl
        refine vx_catch (name := zEx 0) hown [] ⟨0, 14, 17, 21⟩ [⟨0, 14, 21, 13⟩, ⟨0, 14, 25, 15⟩] (htab.trans rfl) (fun z hz => by
            exact absurd hz List.not_mem_nil) (by decide) (by decide) (hts (.classLink RL 21 (zEx 0)) (List.mem_of_getElem? (i := 1) rfl)) (zX_cast hX 0 (by decide)) hce hcv hcl ?_
        refine lv_astore (lv' := [(6, .ref q9), (0, .ref (a 0)), (1, .int p1), (2, .int p2), (3, .int p3), (4, .int p4), (5, .ref ao)]) hx hb dL_addRule_17 hl (by decide) rfl (fun ls hl => ?_)
        refine lv_iconst (v := (1 : Int32)) hx hb dL_addRule_19 (by decide) ?_
        exact W.iret (v := (1 : Int32)) hx hb hr (fun t ht hW => ⟨⟨(1 : Int32), RR.2, rfl, ⟨rfl, rfl⟩, by rw [ht, hz]; exact hP, va_K.moved hW.alike hK, by rw [hz]; exact hD⟩, hS.F ht⟩) hS.2.2 dL_addRule_20
      · have hz : zout Int32.toInt64 vo RR.1 = vo := by rw [hk]; rfl
        refine vx_catch (name := zEx 1) hown [⟨0, 14, 17, 21⟩] ⟨0, 14, 21, 13⟩ [⟨0, 14, 25, 15⟩] (htab.trans rfl) (fun z hz => by
            rcases List.mem_cons.mp hz with rfl | hz
            · exact Or.inr ⟨by decide, zEx 0, (hts (.classLink RL 21 (zEx 0)) (List.mem_of_getElem? (i := 1) rfl)), hL 1 0 (by decide) (by decide) (by decide)⟩
            exact absurd hz List.not_mem_nil) (by decide) (by decide) (hts (.classLink RL 13 (zEx 1)) (List.mem_of_getElem? (i := 2) rfl)) (zX_cast hX 1 (by decide)) hce hcv hcl ?_
        refine lv_astore (lv' := [(6, .ref q9), (0, .ref (a 0)), (1, .int p1), (2, .int p2), (3, .int p3), (4, .int p4), (5, .ref ao)]) hx hb dL_addRule_21 hl (by decide) rfl (fun ls hl => ?_)
        refine lv_iconst (v := (2 : Int32)) hx hb dL_addRule_23 (by decide) ?_
        exact W.iret (v := (2 : Int32)) hx hb hr (fun t ht hW => ⟨⟨(2 : Int32), RR.2, rfl, ⟨rfl, rfl⟩, by rw [ht, hz]; exact hP, va_K.moved hW.alike hK, by rw [hz]; exact hD⟩, hS.F ht⟩) hS.2.2 dL_addRule_24
      · have hz : zout Int32.toInt64 vo RR.1 = vo := by rw [hk]; rfl
        refine vx_catch (name := zEx 2) hown [⟨0, 14, 17, 21⟩, ⟨0, 14, 21, 13⟩] ⟨0, 14, 25, 15⟩ [] (htab.trans rfl) (fun z hz => by
            rcases List.mem_cons.mp hz with rfl | hz
            · exact Or.inr ⟨by decide, zEx 0, (hts (.classLink RL 21 (zEx 0)) (List.mem_of_getElem? (i := 1) rfl)), hL 2 0 (by decide) (by decide) (by decide)⟩
            rcases List.mem_cons.mp hz with rfl | hz
            · exact Or.inr ⟨by decide, zEx 1, (hts (.classLink RL 13 (zEx 1)) (List.mem_of_getElem? (i := 2) rfl)), hL 2 1 (by decide) (by decide) (by decide)⟩
            exact absurd hz List.not_mem_nil) (by decide) (by decide) (hts (.classLink RL 15 (zEx 2)) (List.mem_of_getElem? (i := 3) rfl)) (zX_cast hX 2 (by decide)) hce hcv hcl ?_
        refine lv_astore (lv' := [(6, .ref q9), (0, .ref (a 0)), (1, .int p1), (2, .int p2), (3, .int p3), (4, .int p4), (5, .ref ao)]) hx hb dL_addRule_25 hl (by decide) rfl (fun ls hl => ?_)
        refine lv_iconst (v := (3 : Int32)) hx hb dL_addRule_27 (by decide) ?_
        exact W.iret (v := (3 : Int32)) hx hb hr (fun t ht hW => ⟨⟨(3 : Int32), RR.2, rfl, ⟨rfl, rfl⟩, by rw [ht, hz]; exact hP, va_K.moved hW.alike hK, by rw [hz]; exact hD⟩, hS.F ht⟩) hS.2.2 dL_addRule_28
    · cases hk.symm.trans ev
  · obtain ⟨er, hu⟩ := hw
    subst hu
    rcases hA with ⟨k9, hk9, ek, rfl⟩ | ⟨v9, ev, rfl⟩
    · cases er.symm.trans ek
    obtain rfl : v9 = rr := Sum.inr.inj (ev.symm.trans er)
    refine lv_i2l hx hb dL_addRule_12 rfl ?_
    refine va_last hx hb hK hP hD hS 0 1 rfl rfl (inB_vp (by decide)) dL_addRule_13 (fun H0 locs hP hD hS => ?_)
    have hP9 : va_P G vwCl ((ao, zoc tt (zout Int32.toInt64 vo RR.1)) :: wL tt a b d wd fa od RR.2.1 qc qs bc RR.2.2.1 tl RR.2.2.2.1 (RR.2.2.2.2.1, RR.2.2.2.2.2.1, RR.2.2.2.2.2.2.1, RR.2.2.2.2.2.2.2.1, RR.2.2.2.2.2.2.2.2.1, RR.2.2.2.2.2.2.2.2.2.1, RR.2.2.2.2.2.2.2.2.2.2.1, RR.2.2.2.2.2.2.2.2.2.2.2.1, RR.2.2.2.2.2.2.2.2.2.2.2.2.1, RR.2.2.2.2.2.2.2.2.2.2.2.2.2.1, RR.2.2.2.2.2.2.2.2.2.2.2.2.2.2.1, RR.2.2.2.2.2.2.2.2.2.2.2.2.2.2.2.1) q w fr tr g re fi ro RR.2.2.2.2.2.2.2.2.2.2.2.2.2.2.2.2.1 r pk cz lh lp se md RR.2.2.2.2.2.2.2.2.2.2.2.2.2.2.2.2.2) H0 := by rw [er]; exact hP
    have hD9 : va_D A ((ao, zoc tt (zout Int32.toInt64 vo RR.1)) :: wL tt a b d wd fa od RR.2.1 qc qs bc RR.2.2.1 tl RR.2.2.2.1 (RR.2.2.2.2.1, RR.2.2.2.2.2.1, RR.2.2.2.2.2.2.1, RR.2.2.2.2.2.2.2.1, RR.2.2.2.2.2.2.2.2.1, RR.2.2.2.2.2.2.2.2.2.1, RR.2.2.2.2.2.2.2.2.2.2.1, RR.2.2.2.2.2.2.2.2.2.2.2.1, RR.2.2.2.2.2.2.2.2.2.2.2.2.1, RR.2.2.2.2.2.2.2.2.2.2.2.2.2.1, RR.2.2.2.2.2.2.2.2.2.2.2.2.2.2.1, RR.2.2.2.2.2.2.2.2.2.2.2.2.2.2.2.1) q w fr tr g re fi ro RR.2.2.2.2.2.2.2.2.2.2.2.2.2.2.2.2.1 r pk cz lh lp se md RR.2.2.2.2.2.2.2.2.2.2.2.2.2.2.2.2.2) := by rw [er]; exact hD
    refine lv_goto (tgt := 29) hx hb dL_addRule_14 (by decide) ?_
    refine lv_iconst (v := (0 : Int32)) hx hb dL_addRule_29 (by decide) ?_
    exact W.iret (v := (0 : Int32)) hx hb hr (fun t ht hW => ⟨⟨(0 : Int32), RR.2, rfl, ⟨rfl, rfl⟩, by rw [ht]; exact hP9, va_K.moved hW.alike hK, hD9⟩, hS.F ht⟩) hS.2.2 dL_addRule_30

set_option maxHeartbeats 4000000 in
set_option maxRecDepth 100000 in
theorem mL_addRuleAtom (l : Launch) (G : va_G) (tt : Nat → ClassId) (sa : Nat → Nat) (hlt : l.stackTraces = false) (sz : Nat) (K : Nat) (a : Nat → Nat) (b : Nat → Nat → Nat) (d : Nat → Nat → Nat → Nat) (wd : Nat → Int32) (fa : Nat → Int64) (od hd : Nat → Int32) (qc : Nat → Nat → Int32) (qs : Nat → Int32) (bc : Nat → Nat → Int32) (bs : Nat → Int32) (tl rl : Int32) (H : zH12) (q : zR13) (w fr : Nat → Int64) (tr g re fi : Nat → Int32) (ro im : Int32) (r : zR15) (pk : Int32) (cz : Nat → Int32) (lh : Int32) (lp : Int64) (se : Nat → Int32) (md : Nat → Int64) (ff : Int32) (p1 : Int32) (p2 : Int32) (p3 : Int32) (p4 : Int32) (p5 : Int32) (p6 : Int32) (ao : Nat) (vo : Nat → Int64) (RR : (Nat ⊕ Int32) × (Nat → Nat → Int32) × (Nat → Int32) × (Nat → Nat → Int32) × (Nat → Nat → Int64) × (Nat → Nat → Int32) × (Nat → Nat → Int32) × (Nat → Nat → Nat → Int32) × (Nat → Nat → Int32) × (Nat → Nat → Nat → Int32) × (Nat → Nat → Int32) × (Nat → Int32) × (Nat → Int32) × Int32 × Int32 × (Nat → Int32) × Int32 × Int32) (hF : fX11_addRuleAtom K wd fa od hd qc qs tl rl p1 p2 p3 p4 p5 p6 bc bs H.1 H.2.1 H.2.2.1 H.2.2.2.1 H.2.2.2.2.1 H.2.2.2.2.2.1 H.2.2.2.2.2.2.1 H.2.2.2.2.2.2.2.1 H.2.2.2.2.2.2.2.2.1 H.2.2.2.2.2.2.2.2.2.1 H.2.2.2.2.2.2.2.2.2.2.1 H.2.2.2.2.2.2.2.2.2.2.2 tr im ff = some RR) (bb : Int32 × Int32) (hA : zAg [0, 1, 2] 0 RR.1 bb) : Met l yL_addRuleAtom wsL_addRuleAtom ({ frames := 8, cells := 4, slots := 24, locals := 143 } : Room) (zPreL G (zTy tt) sa [.ref (a 0), .int p1, .int p2, .int p3, .int p4, .int p5, .int p6, .ref ao] sz ((ao, zoc tt vo) :: wL tt a b d wd fa od hd qc qs bc bs tl rl H q w fr tr g re fi ro im r pk cz lh lp se md ff)) (va_Qi (fun (r : Int32) (u : (Nat → Nat → Int32) × (Nat → Int32) × (Nat → Nat → Int32) × (Nat → Nat → Int64) × (Nat → Nat → Int32) × (Nat → Nat → Int32) × (Nat → Nat → Nat → Int32) × (Nat → Nat → Int32) × (Nat → Nat → Nat → Int32) × (Nat → Nat → Int32) × (Nat → Int32) × (Nat → Int32) × Int32 × Int32 × (Nat → Int32) × Int32 × Int32) => r = bb.2 ∧ u = RR.2) (zAt G (zTy tt) (va_A ((ao, zoc tt vo) :: wL tt a b d wd fa od hd qc qs bc bs tl rl H q w fr tr g re fi ro im r pk cz lh lp se md ff) sz) (fun u : (Nat → Nat → Int32) × (Nat → Int32) × (Nat → Nat → Int32) × (Nat → Nat → Int64) × (Nat → Nat → Int32) × (Nat → Nat → Int32) × (Nat → Nat → Nat → Int32) × (Nat → Nat → Int32) × (Nat → Nat → Nat → Int32) × (Nat → Nat → Int32) × (Nat → Int32) × (Nat → Int32) × Int32 × Int32 × (Nat → Int32) × Int32 × Int32 => (ao, zoc tt (zout Int32.toInt64 vo RR.1)) :: wL tt a b d wd fa od hd qc qs u.1 u.2.1 tl rl (u.2.2.1, u.2.2.2.1, u.2.2.2.2.1, u.2.2.2.2.2.1, u.2.2.2.2.2.2.1, u.2.2.2.2.2.2.2.1, u.2.2.2.2.2.2.2.2.1, u.2.2.2.2.2.2.2.2.2.1, u.2.2.2.2.2.2.2.2.2.2.1, u.2.2.2.2.2.2.2.2.2.2.2.1, u.2.2.2.2.2.2.2.2.2.2.2.2.1, u.2.2.2.2.2.2.2.2.2.2.2.2.2.1) q w fr u.2.2.2.2.2.2.2.2.2.2.2.2.2.2.1 g re fi ro u.2.2.2.2.2.2.2.2.2.2.2.2.2.2.2.1 r pk cz lh lp se md u.2.2.2.2.2.2.2.2.2.2.2.2.2.2.2.2)) (va_A ((ao, zoc tt vo) :: wL tt a b d wd fa od hd qc qs bc bs tl rl H q w fr tr g re fi ro im r pk cz lh lp se md ff) sz)) 4 24 (va_A ((ao, zoc tt vo) :: wL tt a b d wd fa od hd qc qs bc bs tl rl H q w fr tr g re fi ro im r pk cz lh lp se md ff) sz) := by
  refine va_MetW (cc := cL_addRuleAtom) (maxL := 9) (ret := (some .int)) (hh := [(0, 18, 21, 21), (0, 18, 25, 13), (0, 18, 29, 15)]) (by decide +kernel) rfl ?_
  intro p e s m args below meth c s₁ B hml hv
  obtain ⟨⟨rfl, hsz, hP, hK, hD0, hN, hX⟩, hL⟩ := hv
  have hx := B.exec
  have hb := B.bytes
  have hr := B.returns
  have hts := atoms_spec (ws := wsL_addRuleAtom) B.pre
  have hown : s.vm.findClass RL = some m.cls := findClass_of_methodNamed B.named
  have hlocks := B.notSynchronized
  have htab : c.exceptionTable.toList = tableOf [(0, 18, 21, 21), (0, 18, 25, 13), (0, 18, 29, 15)] := vx_table (x := yL_addRuleAtom) B (hts _ List.mem_cons_self)
  subst hsz
  have hD := hD0.self (sz := s.heap.size)
  generalize hAe : va_A ((ao, zoc tt vo) :: wL tt a b d wd fa od hd qc qs bc bs tl rl H q w fr tr g re fi ro im r pk cz lh lp se md ff) s.heap.size = A at hD hX ⊢
  have hA9 : ∀ q : Nat, s.heap.size ≤ q → A q := fun q h => by rw [← hAe]; exact Or.inr h
  have hl := lv_entry ([.ref (a 0), .int p1, .int p2, .int p3, .int p4, .int p5, .int p6, .ref ao]) (n := 9) (Nat.le_of_ble_eq_true rfl)
  rw [lg_entry_eq]
  generalize (lg_sl ([.ref (a 0), .int p1, .int p2, .int p3, .int p4, .int p5, .int p6, .ref ao]) ++ List.replicate (9 - (lg_sl ([.ref (a 0), .int p1, .int p2, .int p3, .int p4, .int p5, .int p6, .ref ao])).length) Slot.unset).toArray = ls at hl ⊢
  have hl : lv_has ls 9 [(0, .ref (a 0)), (1, .int p1), (2, .int p2), (3, .int p3), (4, .int p4), (5, .int p5), (6, .int p6), (7, .ref ao)] := hl
  obtain ⟨H0, hHe⟩ : ∃ H : Heap, s.heap = H := ⟨_, rfl⟩
  have hS : va_S A s.heap H0 [] := by rw [← hHe]; exact va_S.rf
  rw [hHe] at hP ⊢
  have hP := zP_perm (List.perm_append_comm (l₁ := [(ao, zoc tt vo)]) (l₂ := wL tt a b d wd fa od hd qc qs bc bs tl rl H q w fr tr g re fi ro im r pk cz lh lp se md ff)) hP
  have hD := zD_perm (List.perm_append_comm (l₁ := [(ao, zoc tt vo)]) (l₂ := wL tt a b d wd fa od hd qc qs bc bs tl rl H q w fr tr g re fi ro im r pk cz lh lp se md ff)) hD
  refine lv_aload hx hb dL_addRuleAtom_0 (lv_at hl 7 rfl) ?_
  refine lv_iconst (v := (0 : Int32)) hx hb dL_addRuleAtom_2 (by decide) ?_
  refine lv_aload_n hx hb dL_addRuleAtom_3 rfl (lv_at hl 0 rfl) ?_
  refine lv_iload_n hx hb dL_addRuleAtom_4 rfl (lv_at hl 1 rfl) ?_
  refine lv_iload_n hx hb dL_addRuleAtom_5 rfl (lv_at hl 2 rfl) ?_
  refine lv_iload_n hx hb dL_addRuleAtom_6 rfl (lv_at hl 3 rfl) ?_
  refine lv_iload hx hb dL_addRuleAtom_7 (lv_at hl 4 rfl) ?_
  refine lv_iload hx hb dL_addRuleAtom_9 (lv_at hl 5 rfl) ?_
  refine lv_iload hx hb dL_addRuleAtom_11 (lv_at hl 6 rfl) ?_
  refine z_callXi (wc := wL tt a b d wd fa od hd qc qs bc bs tl rl H q w fr tr g re fi ro im r pk cz lh lp se md ff) (wr := [(ao, zoc tt vo)]) (As := [.int p1, .int p2, .int p3, .int p4, .int p5, .int p6]) (rest := [.int (0 : Int32), .ref ao]) (ci := 10) ⟨hx, hb, hml, hown, hts⟩ hK hN hX hP hD hS hA9 (nX11_addRuleAtom l G tt sa hlt H0.size K a b d wd fa od hd qc qs bc bs tl rl H q w fr tr g re fi ro im r pk cz lh lp se md ff p1 p2 p3 p4 p5 p6 RR hF) (cwV 6 hts gL_addRuleAtom_X11_addRuleAtom rfl rfl rfl (by decide +kernel) ⟨Nat.le_of_ble_eq_true rfl, Nat.le_of_ble_eq_true rfl⟩) rfl rfl rfl hl.1 rfl (Nat.le_of_ble_eq_true rfl) dL_addRuleAtom_13 ⟨Nat.le_of_ble_eq_true rfl, Nat.le_of_ble_eq_true rfl⟩ (fun k ce q9 H0 locs hk hP hD hS hce hcv hcl => ?_) (fun rr u H0 locs hw hP hD hS => ?_)
  · rcases hA with ⟨k9, hk9, ek, rfl⟩ | ⟨v9, ev, rfl⟩
    · obtain rfl : k9 = k := Sum.inl.inj (ek.symm.trans hk)
      have hk9 : k9 = 0 ∨ k9 = 1 ∨ k9 = 2 := by simpa using hk9
      rcases hk9 with rfl | rfl | rfl
      · have hz : zout Int32.toInt64 vo RR.1 = vo := by rw [hk]; rfl
        refine vx_catch (name := zEx 0) hown [] ⟨0, 18, 21, 21⟩ [⟨0, 18, 25, 13⟩, ⟨0, 18, 29, 15⟩] (htab.trans rfl) (fun z hz => by
            exact absurd hz List.not_mem_nil) (by decide) (by decide) (hts (.classLink RL 21 (zEx 0)) (List.mem_of_getElem? (i := 1) rfl)) (zX_cast hX 0 (by decide)) hce hcv hcl ?_
        refine lv_astore (lv' := [(8, .ref q9), (0, .ref (a 0)), (1, .int p1), (2, .int p2), (3, .int p3), (4, .int p4), (5, .int p5), (6, .int p6), (7, .ref ao)]) hx hb dL_addRuleAtom_21 hl (by decide) rfl (fun ls hl => ?_)
        refine lv_iconst (v := (1 : Int32)) hx hb dL_addRuleAtom_23 (by decide) ?_
        exact W.iret (v := (1 : Int32)) hx hb hr (fun t ht hW => ⟨⟨(1 : Int32), RR.2, rfl, ⟨rfl, rfl⟩, by rw [ht, hz]; exact hP, va_K.moved hW.alike hK, by rw [hz]; exact hD⟩, hS.F ht⟩) hS.2.2 dL_addRuleAtom_24
      · have hz : zout Int32.toInt64 vo RR.1 = vo := by rw [hk]; rfl
        refine vx_catch (name := zEx 1) hown [⟨0, 18, 21, 21⟩] ⟨0, 18, 25, 13⟩ [⟨0, 18, 29, 15⟩] (htab.trans rfl) (fun z hz => by
            rcases List.mem_cons.mp hz with rfl | hz
            · exact Or.inr ⟨by decide, zEx 0, (hts (.classLink RL 21 (zEx 0)) (List.mem_of_getElem? (i := 1) rfl)), hL 1 0 (by decide) (by decide) (by decide)⟩
            exact absurd hz List.not_mem_nil) (by decide) (by decide) (hts (.classLink RL 13 (zEx 1)) (List.mem_of_getElem? (i := 2) rfl)) (zX_cast hX 1 (by decide)) hce hcv hcl ?_
        refine lv_astore (lv' := [(8, .ref q9), (0, .ref (a 0)), (1, .int p1), (2, .int p2), (3, .int p3), (4, .int p4), (5, .int p5), (6, .int p6), (7, .ref ao)]) hx hb dL_addRuleAtom_25 hl (by decide) rfl (fun ls hl => ?_)
        refine lv_iconst (v := (2 : Int32)) hx hb dL_addRuleAtom_27 (by decide) ?_
        exact W.iret (v := (2 : Int32)) hx hb hr (fun t ht hW => ⟨⟨(2 : Int32), RR.2, rfl, ⟨rfl, rfl⟩, by rw [ht, hz]; exact hP, va_K.moved hW.alike hK, by rw [hz]; exact hD⟩, hS.F ht⟩) hS.2.2 dL_addRuleAtom_28
      · have hz : zout Int32.toInt64 vo RR.1 = vo := by rw [hk]; rfl
        refine vx_catch (name := zEx 2) hown [⟨0, 18, 21, 21⟩, ⟨0, 18, 25, 13⟩] ⟨0, 18, 29, 15⟩ [] (htab.trans rfl) (fun z hz => by
            rcases List.mem_cons.mp hz with rfl | hz
            · exact Or.inr ⟨by decide, zEx 0, (hts (.classLink RL 21 (zEx 0)) (List.mem_of_getElem? (i := 1) rfl)), hL 2 0 (by decide) (by decide) (by decide)⟩
            rcases List.mem_cons.mp hz with rfl | hz
            · exact Or.inr ⟨by decide, zEx 1, (hts (.classLink RL 13 (zEx 1)) (List.mem_of_getElem? (i := 2) rfl)), hL 2 1 (by decide) (by decide) (by decide)⟩
            exact absurd hz List.not_mem_nil) (by decide) (by decide) (hts (.classLink RL 15 (zEx 2)) (List.mem_of_getElem? (i := 3) rfl)) (zX_cast hX 2 (by decide)) hce hcv hcl ?_
        refine lv_astore (lv' := [(8, .ref q9), (0, .ref (a 0)), (1, .int p1), (2, .int p2), (3, .int p3), (4, .int p4), (5, .int p5), (6, .int p6), (7, .ref ao)]) hx hb dL_addRuleAtom_29 hl (by decide) rfl (fun ls hl => ?_)
        refine lv_iconst (v := (3 : Int32)) hx hb dL_addRuleAtom_31 (by decide) ?_
        exact W.iret (v := (3 : Int32)) hx hb hr (fun t ht hW => ⟨⟨(3 : Int32), RR.2, rfl, ⟨rfl, rfl⟩, by rw [ht, hz]; exact hP, va_K.moved hW.alike hK, by rw [hz]; exact hD⟩, hS.F ht⟩) hS.2.2 dL_addRuleAtom_32
    · cases hk.symm.trans ev
  · obtain ⟨er, hu⟩ := hw
    subst hu
    rcases hA with ⟨k9, hk9, ek, rfl⟩ | ⟨v9, ev, rfl⟩
    · cases er.symm.trans ek
    obtain rfl : v9 = rr := Sum.inr.inj (ev.symm.trans er)
    refine lv_i2l hx hb dL_addRuleAtom_16 rfl ?_
    refine va_last hx hb hK hP hD hS 0 1 rfl rfl (inB_vp (by decide)) dL_addRuleAtom_17 (fun H0 locs hP hD hS => ?_)
    have hP9 : va_P G vwCl ((ao, zoc tt (zout Int32.toInt64 vo RR.1)) :: wL tt a b d wd fa od hd qc qs RR.2.1 RR.2.2.1 tl rl (RR.2.2.2.1, RR.2.2.2.2.1, RR.2.2.2.2.2.1, RR.2.2.2.2.2.2.1, RR.2.2.2.2.2.2.2.1, RR.2.2.2.2.2.2.2.2.1, RR.2.2.2.2.2.2.2.2.2.1, RR.2.2.2.2.2.2.2.2.2.2.1, RR.2.2.2.2.2.2.2.2.2.2.2.1, RR.2.2.2.2.2.2.2.2.2.2.2.2.1, RR.2.2.2.2.2.2.2.2.2.2.2.2.2.1, RR.2.2.2.2.2.2.2.2.2.2.2.2.2.2.1) q w fr RR.2.2.2.2.2.2.2.2.2.2.2.2.2.2.2.1 g re fi ro RR.2.2.2.2.2.2.2.2.2.2.2.2.2.2.2.2.1 r pk cz lh lp se md RR.2.2.2.2.2.2.2.2.2.2.2.2.2.2.2.2.2) H0 := by rw [er]; exact hP
    have hD9 : va_D A ((ao, zoc tt (zout Int32.toInt64 vo RR.1)) :: wL tt a b d wd fa od hd qc qs RR.2.1 RR.2.2.1 tl rl (RR.2.2.2.1, RR.2.2.2.2.1, RR.2.2.2.2.2.1, RR.2.2.2.2.2.2.1, RR.2.2.2.2.2.2.2.1, RR.2.2.2.2.2.2.2.2.1, RR.2.2.2.2.2.2.2.2.2.1, RR.2.2.2.2.2.2.2.2.2.2.1, RR.2.2.2.2.2.2.2.2.2.2.2.1, RR.2.2.2.2.2.2.2.2.2.2.2.2.1, RR.2.2.2.2.2.2.2.2.2.2.2.2.2.1, RR.2.2.2.2.2.2.2.2.2.2.2.2.2.2.1) q w fr RR.2.2.2.2.2.2.2.2.2.2.2.2.2.2.2.1 g re fi ro RR.2.2.2.2.2.2.2.2.2.2.2.2.2.2.2.2.1 r pk cz lh lp se md RR.2.2.2.2.2.2.2.2.2.2.2.2.2.2.2.2.2) := by rw [er]; exact hD
    refine lv_goto (tgt := 33) hx hb dL_addRuleAtom_18 (by decide) ?_
    refine lv_iconst (v := (0 : Int32)) hx hb dL_addRuleAtom_33 (by decide) ?_
    exact W.iret (v := (0 : Int32)) hx hb hr (fun t ht hW => ⟨⟨(0 : Int32), RR.2, rfl, ⟨rfl, rfl⟩, by rw [ht]; exact hP9, va_K.moved hW.alike hK, hD9⟩, hS.F ht⟩) hS.2.2 dL_addRuleAtom_34
