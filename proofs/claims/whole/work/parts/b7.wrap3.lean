/-! the law's own methods -/
set_option maxHeartbeats 4000000 in
set_option maxRecDepth 100000 in
theorem mL_answerAt (l : Launch) (G : va_G) (tt : Nat → ClassId) (sa : Nat → Nat) (hlt : l.stackTraces = false) (sz : Nat) (K : Nat) (a : Nat → Nat) (b : Nat → Nat → Nat) (d : Nat → Nat → Nat → Nat) (wd : Nat → Int32) (fa : Nat → Int64) (od hd : Nat → Int32) (qc : Nat → Nat → Int32) (qs : Nat → Int32) (bc : Nat → Nat → Int32) (bs : Nat → Int32) (tl rl : Int32) (H : zH12) (q : zR13) (w fr : Nat → Int64) (tr g re fi : Nat → Int32) (ro im : Int32) (r : zR15) (pk : Int32) (cz : Nat → Int32) (lh : Int32) (lp : Int64) (se : Nat → Int32) (md : Nat → Int64) (ff : Int32) (p1 : Int32) (p2 : Int32) (p3 : Int32) (ao : Nat) (vo : Nat → Int64) (RR : (Nat ⊕ Int32) × (Nat → Int32) × Int32 × (Nat → Int32) × (Nat → Int32) × (Nat → Int32) × (Nat → Int32) × (Nat → Int32) × (Nat → Int32) × Int32 × Int32 × Int32 × Int32 × Int32 × (Nat → Int64) × (Nat → Int64) × (Nat → Int32) × (Nat → Int32) × (Nat → Int32) × Int32 × Int32 × (Nat → Int32) × Int32 × (Nat → Int32) × (Nat → Int32) × (Nat → Int32) × (Nat → Int32) × (Nat → Int32) × (Nat → Int32) × Int32 × Int32 × Int32 × Int32 × Int32 × (Nat → Int64) × Int32 × Int32 × Int32) (hF : fX11_answerAt K fa od hd qc qs bc bs rl p1 p2 p3 q.1 q.2.1 q.2.2.1 q.2.2.2.1 q.2.2.2.2.1 q.2.2.2.2.2.1 q.2.2.2.2.2.2.1 q.2.2.2.2.2.2.2.1 q.2.2.2.2.2.2.2.2.1 q.2.2.2.2.2.2.2.2.2.1 q.2.2.2.2.2.2.2.2.2.2.1 q.2.2.2.2.2.2.2.2.2.2.2.1 q.2.2.2.2.2.2.2.2.2.2.2.2 w fr g re fi ro im r.1 r.2.1 r.2.2.1 r.2.2.2.1 r.2.2.2.2.1 r.2.2.2.2.2.1 r.2.2.2.2.2.2.1 r.2.2.2.2.2.2.2.1 r.2.2.2.2.2.2.2.2.1 r.2.2.2.2.2.2.2.2.2.1 r.2.2.2.2.2.2.2.2.2.2.1 r.2.2.2.2.2.2.2.2.2.2.2.1 r.2.2.2.2.2.2.2.2.2.2.2.2.1 r.2.2.2.2.2.2.2.2.2.2.2.2.2.1 r.2.2.2.2.2.2.2.2.2.2.2.2.2.2 pk ff = some RR) (bb : Int32 × Int32) (hA : zAg [0] 0 RR.1 bb) : Met l yL_answerAt wsL_answerAt ({ frames := 8, cells := 3, slots := 18, locals := 189 } : Room) (zPreL G (zTy tt) sa [.ref (a 0), .int p1, .int p2, .int p3, .ref ao] sz ((ao, zoc tt vo) :: wL tt a b d wd fa od hd qc qs bc bs tl rl H q w fr tr g re fi ro im r pk cz lh lp se md ff)) (va_Qi (fun (r : Int32) (u : (Nat → Int32) × Int32 × (Nat → Int32) × (Nat → Int32) × (Nat → Int32) × (Nat → Int32) × (Nat → Int32) × (Nat → Int32) × Int32 × Int32 × Int32 × Int32 × Int32 × (Nat → Int64) × (Nat → Int64) × (Nat → Int32) × (Nat → Int32) × (Nat → Int32) × Int32 × Int32 × (Nat → Int32) × Int32 × (Nat → Int32) × (Nat → Int32) × (Nat → Int32) × (Nat → Int32) × (Nat → Int32) × (Nat → Int32) × Int32 × Int32 × Int32 × Int32 × Int32 × (Nat → Int64) × Int32 × Int32 × Int32) => r = bb.2 ∧ u = RR.2) (zAt G (zTy tt) (va_A ((ao, zoc tt vo) :: wL tt a b d wd fa od hd qc qs bc bs tl rl H q w fr tr g re fi ro im r pk cz lh lp se md ff) sz) (fun u : (Nat → Int32) × Int32 × (Nat → Int32) × (Nat → Int32) × (Nat → Int32) × (Nat → Int32) × (Nat → Int32) × (Nat → Int32) × Int32 × Int32 × Int32 × Int32 × Int32 × (Nat → Int64) × (Nat → Int64) × (Nat → Int32) × (Nat → Int32) × (Nat → Int32) × Int32 × Int32 × (Nat → Int32) × Int32 × (Nat → Int32) × (Nat → Int32) × (Nat → Int32) × (Nat → Int32) × (Nat → Int32) × (Nat → Int32) × Int32 × Int32 × Int32 × Int32 × Int32 × (Nat → Int64) × Int32 × Int32 × Int32 => (ao, zoc tt (zout Int32.toInt64 vo RR.1)) :: wL tt a b d wd fa od hd qc qs bc bs tl rl H (u.1, u.2.1, u.2.2.1, u.2.2.2.1, u.2.2.2.2.1, u.2.2.2.2.2.1, u.2.2.2.2.2.2.1, u.2.2.2.2.2.2.2.1, u.2.2.2.2.2.2.2.2.1, u.2.2.2.2.2.2.2.2.2.1, u.2.2.2.2.2.2.2.2.2.2.1, u.2.2.2.2.2.2.2.2.2.2.2.1, u.2.2.2.2.2.2.2.2.2.2.2.2.1) u.2.2.2.2.2.2.2.2.2.2.2.2.2.1 u.2.2.2.2.2.2.2.2.2.2.2.2.2.2.1 tr u.2.2.2.2.2.2.2.2.2.2.2.2.2.2.2.1 u.2.2.2.2.2.2.2.2.2.2.2.2.2.2.2.2.1 u.2.2.2.2.2.2.2.2.2.2.2.2.2.2.2.2.2.1 u.2.2.2.2.2.2.2.2.2.2.2.2.2.2.2.2.2.2.1 u.2.2.2.2.2.2.2.2.2.2.2.2.2.2.2.2.2.2.2.1 (u.2.2.2.2.2.2.2.2.2.2.2.2.2.2.2.2.2.2.2.2.1, u.2.2.2.2.2.2.2.2.2.2.2.2.2.2.2.2.2.2.2.2.2.1, u.2.2.2.2.2.2.2.2.2.2.2.2.2.2.2.2.2.2.2.2.2.2.1, u.2.2.2.2.2.2.2.2.2.2.2.2.2.2.2.2.2.2.2.2.2.2.2.1, u.2.2.2.2.2.2.2.2.2.2.2.2.2.2.2.2.2.2.2.2.2.2.2.2.1, u.2.2.2.2.2.2.2.2.2.2.2.2.2.2.2.2.2.2.2.2.2.2.2.2.2.1, u.2.2.2.2.2.2.2.2.2.2.2.2.2.2.2.2.2.2.2.2.2.2.2.2.2.2.1, u.2.2.2.2.2.2.2.2.2.2.2.2.2.2.2.2.2.2.2.2.2.2.2.2.2.2.2.1, u.2.2.2.2.2.2.2.2.2.2.2.2.2.2.2.2.2.2.2.2.2.2.2.2.2.2.2.2.1, u.2.2.2.2.2.2.2.2.2.2.2.2.2.2.2.2.2.2.2.2.2.2.2.2.2.2.2.2.2.1, u.2.2.2.2.2.2.2.2.2.2.2.2.2.2.2.2.2.2.2.2.2.2.2.2.2.2.2.2.2.2.1, u.2.2.2.2.2.2.2.2.2.2.2.2.2.2.2.2.2.2.2.2.2.2.2.2.2.2.2.2.2.2.2.1, u.2.2.2.2.2.2.2.2.2.2.2.2.2.2.2.2.2.2.2.2.2.2.2.2.2.2.2.2.2.2.2.2.1, u.2.2.2.2.2.2.2.2.2.2.2.2.2.2.2.2.2.2.2.2.2.2.2.2.2.2.2.2.2.2.2.2.2.1, u.2.2.2.2.2.2.2.2.2.2.2.2.2.2.2.2.2.2.2.2.2.2.2.2.2.2.2.2.2.2.2.2.2.2.1) u.2.2.2.2.2.2.2.2.2.2.2.2.2.2.2.2.2.2.2.2.2.2.2.2.2.2.2.2.2.2.2.2.2.2.2.1 cz lh lp se md u.2.2.2.2.2.2.2.2.2.2.2.2.2.2.2.2.2.2.2.2.2.2.2.2.2.2.2.2.2.2.2.2.2.2.2.2)) (va_A ((ao, zoc tt vo) :: wL tt a b d wd fa od hd qc qs bc bs tl rl H q w fr tr g re fi ro im r pk cz lh lp se md ff) sz)) 3 18 (va_A ((ao, zoc tt vo) :: wL tt a b d wd fa od hd qc qs bc bs tl rl H q w fr tr g re fi ro im r pk cz lh lp se md ff) sz) := by
  refine va_MetW (cc := cL_answerAt) (maxL := 6) (ret := (some .int)) (hh := [(0, 12, 15, 21)]) (by decide +kernel) rfl ?_
  intro p e s m args below meth c s₁ B hml hv
  obtain ⟨⟨rfl, hsz, hP, hK, hD0, hN, hX⟩, hL⟩ := hv
  have hx := B.exec
  have hb := B.bytes
  have hr := B.returns
  have hts := atoms_spec (ws := wsL_answerAt) B.pre
  have hown : s.vm.findClass RL = some m.cls := findClass_of_methodNamed B.named
  have hlocks := B.notSynchronized
  have htab : c.exceptionTable.toList = tableOf [(0, 12, 15, 21)] := vx_table (x := yL_answerAt) B (hts _ List.mem_cons_self)
  subst hsz
  have hD := hD0.self (sz := s.heap.size)
  generalize hAe : va_A ((ao, zoc tt vo) :: wL tt a b d wd fa od hd qc qs bc bs tl rl H q w fr tr g re fi ro im r pk cz lh lp se md ff) s.heap.size = A at hD hX ⊢
  have hA9 : ∀ q : Nat, s.heap.size ≤ q → A q := fun q h => by rw [← hAe]; exact Or.inr h
  have hl := lv_entry ([.ref (a 0), .int p1, .int p2, .int p3, .ref ao]) (n := 6) (Nat.le_of_ble_eq_true rfl)
  rw [lg_entry_eq]
  generalize (lg_sl ([.ref (a 0), .int p1, .int p2, .int p3, .ref ao]) ++ List.replicate (6 - (lg_sl ([.ref (a 0), .int p1, .int p2, .int p3, .ref ao])).length) Slot.unset).toArray = ls at hl ⊢
  have hl : lv_has ls 6 [(0, .ref (a 0)), (1, .int p1), (2, .int p2), (3, .int p3), (4, .ref ao)] := hl
  obtain ⟨H0, hHe⟩ : ∃ H : Heap, s.heap = H := ⟨_, rfl⟩
  have hS : va_S A s.heap H0 [] := by rw [← hHe]; exact va_S.rf
  rw [hHe] at hP ⊢
  have hP := zP_perm (List.perm_append_comm (l₁ := [(ao, zoc tt vo)]) (l₂ := wL tt a b d wd fa od hd qc qs bc bs tl rl H q w fr tr g re fi ro im r pk cz lh lp se md ff)) hP
  have hD := zD_perm (List.perm_append_comm (l₁ := [(ao, zoc tt vo)]) (l₂ := wL tt a b d wd fa od hd qc qs bc bs tl rl H q w fr tr g re fi ro im r pk cz lh lp se md ff)) hD
  refine lv_aload hx hb dL_answerAt_0 (lv_at hl 4 rfl) ?_
  refine lv_iconst (v := (0 : Int32)) hx hb dL_answerAt_2 (by decide) ?_
  refine lv_aload_n hx hb dL_answerAt_3 rfl (lv_at hl 0 rfl) ?_
  refine lv_iload_n hx hb dL_answerAt_4 rfl (lv_at hl 1 rfl) ?_
  refine lv_iload_n hx hb dL_answerAt_5 rfl (lv_at hl 2 rfl) ?_
  refine lv_iload_n hx hb dL_answerAt_6 rfl (lv_at hl 3 rfl) ?_
  refine z_callXi (wc := wL tt a b d wd fa od hd qc qs bc bs tl rl H q w fr tr g re fi ro im r pk cz lh lp se md ff) (wr := [(ao, zoc tt vo)]) (As := [.int p1, .int p2, .int p3]) (rest := [.int (0 : Int32), .ref ao]) (ci := 10) ⟨hx, hb, hml, hown, hts⟩ hK hN hX hP hD hS hA9 (nX11_answerAt l G tt sa hlt H0.size K a b d wd fa od hd qc qs bc bs tl rl H q w fr tr g re fi ro im r pk cz lh lp se md ff p1 p2 p3 RR hF) (cwV 3 hts gL_answerAt_X11_answerAt rfl rfl rfl (by decide +kernel) ⟨Nat.le_of_ble_eq_true rfl, Nat.le_of_ble_eq_true rfl⟩) rfl rfl rfl hl.1 rfl (Nat.le_of_ble_eq_true rfl) dL_answerAt_7 ⟨Nat.le_of_ble_eq_true rfl, Nat.le_of_ble_eq_true rfl⟩ (fun k ce q9 H0 locs hk hP hD hS hce hcv hcl => ?_) (fun rr u H0 locs hw hP hD hS => ?_)
  · rcases hA with ⟨k9, hk9, ek, rfl⟩ | ⟨v9, ev, rfl⟩
    · obtain rfl : k9 = k := Sum.inl.inj (ek.symm.trans hk)
      have hk9 : k9 = 0 := by simpa using hk9
      subst hk9
      have hz : zout Int32.toInt64 vo RR.1 = vo := by rw [hk]; rfl
      refine vx_catch (name := zEx 0) hown [] ⟨0, 12, 15, 21⟩ [] (htab.trans rfl) (fun z hz => by
          exact absurd hz List.not_mem_nil) (by decide) (by decide) (hts (.classLink RL 21 (zEx 0)) (List.mem_of_getElem? (i := 1) rfl)) (zX_cast hX 0 (by decide)) hce hcv hcl ?_
      refine lv_astore (lv' := [(5, .ref q9), (0, .ref (a 0)), (1, .int p1), (2, .int p2), (3, .int p3), (4, .ref ao)]) hx hb dL_answerAt_15 hl (by decide) rfl (fun ls hl => ?_)
      refine lv_iconst (v := (1 : Int32)) hx hb dL_answerAt_17 (by decide) ?_
      exact W.iret (v := (1 : Int32)) hx hb hr (fun t ht hW => ⟨⟨(1 : Int32), RR.2, rfl, ⟨rfl, rfl⟩, by rw [ht, hz]; exact hP, va_K.moved hW.alike hK, by rw [hz]; exact hD⟩, hS.F ht⟩) hS.2.2 dL_answerAt_18
    · cases hk.symm.trans ev
  · obtain ⟨er, hu⟩ := hw
    subst hu
    rcases hA with ⟨k9, hk9, ek, rfl⟩ | ⟨v9, ev, rfl⟩
    · cases er.symm.trans ek
    obtain rfl : v9 = rr := Sum.inr.inj (ev.symm.trans er)
    refine lv_i2l hx hb dL_answerAt_10 rfl ?_
    refine va_last hx hb hK hP hD hS 0 1 rfl rfl (inB_vp (by decide)) dL_answerAt_11 (fun H0 locs hP hD hS => ?_)
    have hP9 : va_P G vwCl ((ao, zoc tt (zout Int32.toInt64 vo RR.1)) :: wL tt a b d wd fa od hd qc qs bc bs tl rl H (RR.2.1, RR.2.2.1, RR.2.2.2.1, RR.2.2.2.2.1, RR.2.2.2.2.2.1, RR.2.2.2.2.2.2.1, RR.2.2.2.2.2.2.2.1, RR.2.2.2.2.2.2.2.2.1, RR.2.2.2.2.2.2.2.2.2.1, RR.2.2.2.2.2.2.2.2.2.2.1, RR.2.2.2.2.2.2.2.2.2.2.2.1, RR.2.2.2.2.2.2.2.2.2.2.2.2.1, RR.2.2.2.2.2.2.2.2.2.2.2.2.2.1) RR.2.2.2.2.2.2.2.2.2.2.2.2.2.2.1 RR.2.2.2.2.2.2.2.2.2.2.2.2.2.2.2.1 tr RR.2.2.2.2.2.2.2.2.2.2.2.2.2.2.2.2.1 RR.2.2.2.2.2.2.2.2.2.2.2.2.2.2.2.2.2.1 RR.2.2.2.2.2.2.2.2.2.2.2.2.2.2.2.2.2.2.1 RR.2.2.2.2.2.2.2.2.2.2.2.2.2.2.2.2.2.2.2.1 RR.2.2.2.2.2.2.2.2.2.2.2.2.2.2.2.2.2.2.2.2.1 (RR.2.2.2.2.2.2.2.2.2.2.2.2.2.2.2.2.2.2.2.2.2.1, RR.2.2.2.2.2.2.2.2.2.2.2.2.2.2.2.2.2.2.2.2.2.2.1, RR.2.2.2.2.2.2.2.2.2.2.2.2.2.2.2.2.2.2.2.2.2.2.2.1, RR.2.2.2.2.2.2.2.2.2.2.2.2.2.2.2.2.2.2.2.2.2.2.2.2.1, RR.2.2.2.2.2.2.2.2.2.2.2.2.2.2.2.2.2.2.2.2.2.2.2.2.2.1, RR.2.2.2.2.2.2.2.2.2.2.2.2.2.2.2.2.2.2.2.2.2.2.2.2.2.2.1, RR.2.2.2.2.2.2.2.2.2.2.2.2.2.2.2.2.2.2.2.2.2.2.2.2.2.2.2.1, RR.2.2.2.2.2.2.2.2.2.2.2.2.2.2.2.2.2.2.2.2.2.2.2.2.2.2.2.2.1, RR.2.2.2.2.2.2.2.2.2.2.2.2.2.2.2.2.2.2.2.2.2.2.2.2.2.2.2.2.2.1, RR.2.2.2.2.2.2.2.2.2.2.2.2.2.2.2.2.2.2.2.2.2.2.2.2.2.2.2.2.2.2.1, RR.2.2.2.2.2.2.2.2.2.2.2.2.2.2.2.2.2.2.2.2.2.2.2.2.2.2.2.2.2.2.2.1, RR.2.2.2.2.2.2.2.2.2.2.2.2.2.2.2.2.2.2.2.2.2.2.2.2.2.2.2.2.2.2.2.2.1, RR.2.2.2.2.2.2.2.2.2.2.2.2.2.2.2.2.2.2.2.2.2.2.2.2.2.2.2.2.2.2.2.2.2.1, RR.2.2.2.2.2.2.2.2.2.2.2.2.2.2.2.2.2.2.2.2.2.2.2.2.2.2.2.2.2.2.2.2.2.2.1, RR.2.2.2.2.2.2.2.2.2.2.2.2.2.2.2.2.2.2.2.2.2.2.2.2.2.2.2.2.2.2.2.2.2.2.2.1) RR.2.2.2.2.2.2.2.2.2.2.2.2.2.2.2.2.2.2.2.2.2.2.2.2.2.2.2.2.2.2.2.2.2.2.2.2.1 cz lh lp se md RR.2.2.2.2.2.2.2.2.2.2.2.2.2.2.2.2.2.2.2.2.2.2.2.2.2.2.2.2.2.2.2.2.2.2.2.2.2) H0 := by rw [er]; exact hP
    have hD9 : va_D A ((ao, zoc tt (zout Int32.toInt64 vo RR.1)) :: wL tt a b d wd fa od hd qc qs bc bs tl rl H (RR.2.1, RR.2.2.1, RR.2.2.2.1, RR.2.2.2.2.1, RR.2.2.2.2.2.1, RR.2.2.2.2.2.2.1, RR.2.2.2.2.2.2.2.1, RR.2.2.2.2.2.2.2.2.1, RR.2.2.2.2.2.2.2.2.2.1, RR.2.2.2.2.2.2.2.2.2.2.1, RR.2.2.2.2.2.2.2.2.2.2.2.1, RR.2.2.2.2.2.2.2.2.2.2.2.2.1, RR.2.2.2.2.2.2.2.2.2.2.2.2.2.1) RR.2.2.2.2.2.2.2.2.2.2.2.2.2.2.1 RR.2.2.2.2.2.2.2.2.2.2.2.2.2.2.2.1 tr RR.2.2.2.2.2.2.2.2.2.2.2.2.2.2.2.2.1 RR.2.2.2.2.2.2.2.2.2.2.2.2.2.2.2.2.2.1 RR.2.2.2.2.2.2.2.2.2.2.2.2.2.2.2.2.2.2.1 RR.2.2.2.2.2.2.2.2.2.2.2.2.2.2.2.2.2.2.2.1 RR.2.2.2.2.2.2.2.2.2.2.2.2.2.2.2.2.2.2.2.2.1 (RR.2.2.2.2.2.2.2.2.2.2.2.2.2.2.2.2.2.2.2.2.2.1, RR.2.2.2.2.2.2.2.2.2.2.2.2.2.2.2.2.2.2.2.2.2.2.1, RR.2.2.2.2.2.2.2.2.2.2.2.2.2.2.2.2.2.2.2.2.2.2.2.1, RR.2.2.2.2.2.2.2.2.2.2.2.2.2.2.2.2.2.2.2.2.2.2.2.2.1, RR.2.2.2.2.2.2.2.2.2.2.2.2.2.2.2.2.2.2.2.2.2.2.2.2.2.1, RR.2.2.2.2.2.2.2.2.2.2.2.2.2.2.2.2.2.2.2.2.2.2.2.2.2.2.1, RR.2.2.2.2.2.2.2.2.2.2.2.2.2.2.2.2.2.2.2.2.2.2.2.2.2.2.2.1, RR.2.2.2.2.2.2.2.2.2.2.2.2.2.2.2.2.2.2.2.2.2.2.2.2.2.2.2.2.1, RR.2.2.2.2.2.2.2.2.2.2.2.2.2.2.2.2.2.2.2.2.2.2.2.2.2.2.2.2.2.1, RR.2.2.2.2.2.2.2.2.2.2.2.2.2.2.2.2.2.2.2.2.2.2.2.2.2.2.2.2.2.2.1, RR.2.2.2.2.2.2.2.2.2.2.2.2.2.2.2.2.2.2.2.2.2.2.2.2.2.2.2.2.2.2.2.1, RR.2.2.2.2.2.2.2.2.2.2.2.2.2.2.2.2.2.2.2.2.2.2.2.2.2.2.2.2.2.2.2.2.1, RR.2.2.2.2.2.2.2.2.2.2.2.2.2.2.2.2.2.2.2.2.2.2.2.2.2.2.2.2.2.2.2.2.2.1, RR.2.2.2.2.2.2.2.2.2.2.2.2.2.2.2.2.2.2.2.2.2.2.2.2.2.2.2.2.2.2.2.2.2.2.1, RR.2.2.2.2.2.2.2.2.2.2.2.2.2.2.2.2.2.2.2.2.2.2.2.2.2.2.2.2.2.2.2.2.2.2.2.1) RR.2.2.2.2.2.2.2.2.2.2.2.2.2.2.2.2.2.2.2.2.2.2.2.2.2.2.2.2.2.2.2.2.2.2.2.2.1 cz lh lp se md RR.2.2.2.2.2.2.2.2.2.2.2.2.2.2.2.2.2.2.2.2.2.2.2.2.2.2.2.2.2.2.2.2.2.2.2.2.2) := by rw [er]; exact hD
    refine lv_goto (tgt := 19) hx hb dL_answerAt_12 (by decide) ?_
    refine lv_iconst (v := (0 : Int32)) hx hb dL_answerAt_19 (by decide) ?_
    exact W.iret (v := (0 : Int32)) hx hb hr (fun t ht hW => ⟨⟨(0 : Int32), RR.2, rfl, ⟨rfl, rfl⟩, by rw [ht]; exact hP9, va_K.moved hW.alike hK, hD9⟩, hS.F ht⟩) hS.2.2 dL_answerAt_20

set_option maxHeartbeats 4000000 in
set_option maxRecDepth 100000 in
theorem mL_seek (l : Launch) (G : va_G) (tt : Nat → ClassId) (sa : Nat → Nat) (hlt : l.stackTraces = false) (sz : Nat) (K : Nat) (a : Nat → Nat) (b : Nat → Nat → Nat) (d : Nat → Nat → Nat → Nat) (wd : Nat → Int32) (fa : Nat → Int64) (od hd : Nat → Int32) (qc : Nat → Nat → Int32) (qs : Nat → Int32) (bc : Nat → Nat → Int32) (bs : Nat → Int32) (tl rl : Int32) (H : zH12) (q : zR13) (w fr : Nat → Int64) (tr g re fi : Nat → Int32) (ro im : Int32) (r : zR15) (pk : Int32) (cz : Nat → Int32) (lh : Int32) (lp : Int64) (se : Nat → Int32) (md : Nat → Int64) (ff : Int32) (p1 : Int32) (p2 : Int32) (p3 : Int32) (p4 : Int32) (p5 : Int32) (ao : Nat) (vo : Nat → Int64) (RR : (Nat ⊕ Int32) × (Nat → Int32) × Int32 × (Nat → Int32) × (Nat → Int32) × (Nat → Int32) × (Nat → Int32) × (Nat → Int32) × (Nat → Int32) × Int32 × Int32 × Int32 × Int32 × Int32 × (Nat → Int64) × (Nat → Int64) × (Nat → Int32) × (Nat → Int32) × (Nat → Int32) × Int32 × Int32 × (Nat → Int32) × Int32 × (Nat → Int32) × (Nat → Int32) × (Nat → Int32) × (Nat → Int32) × (Nat → Int32) × (Nat → Int32) × Int32 × Int32 × Int32 × Int32 × Int32 × (Nat → Int64) × Int32 × Int32) (hF : fX11_seek K fa od hd qc qs bc bs rl p1 p2 p3 p4 p5 q.1 q.2.1 q.2.2.1 q.2.2.2.1 q.2.2.2.2.1 q.2.2.2.2.2.1 q.2.2.2.2.2.2.1 q.2.2.2.2.2.2.2.1 q.2.2.2.2.2.2.2.2.1 q.2.2.2.2.2.2.2.2.2.1 q.2.2.2.2.2.2.2.2.2.2.1 q.2.2.2.2.2.2.2.2.2.2.2.1 q.2.2.2.2.2.2.2.2.2.2.2.2 w fr g re fi ro im r.1 r.2.1 r.2.2.1 r.2.2.2.1 r.2.2.2.2.1 r.2.2.2.2.2.1 r.2.2.2.2.2.2.1 r.2.2.2.2.2.2.2.1 r.2.2.2.2.2.2.2.2.1 r.2.2.2.2.2.2.2.2.2.1 r.2.2.2.2.2.2.2.2.2.2.1 r.2.2.2.2.2.2.2.2.2.2.2.1 r.2.2.2.2.2.2.2.2.2.2.2.2.1 r.2.2.2.2.2.2.2.2.2.2.2.2.2.1 r.2.2.2.2.2.2.2.2.2.2.2.2.2.2 ff = some RR) (bb : Int32 × Int32) (hA : zAg [0, 1, 3] 0 RR.1 bb) : Met l yL_seek wsL_seek ({ frames := 8, cells := 2, slots := 12, locals := 191 } : Room) (zPreL G (zTy tt) sa [.ref (a 0), .int p1, .int p2, .int p3, .int p4, .int p5, .ref ao] sz ((ao, zoc tt vo) :: wL tt a b d wd fa od hd qc qs bc bs tl rl H q w fr tr g re fi ro im r pk cz lh lp se md ff)) (va_Qi (fun (r : Int32) (u : (Nat → Int32) × Int32 × (Nat → Int32) × (Nat → Int32) × (Nat → Int32) × (Nat → Int32) × (Nat → Int32) × (Nat → Int32) × Int32 × Int32 × Int32 × Int32 × Int32 × (Nat → Int64) × (Nat → Int64) × (Nat → Int32) × (Nat → Int32) × (Nat → Int32) × Int32 × Int32 × (Nat → Int32) × Int32 × (Nat → Int32) × (Nat → Int32) × (Nat → Int32) × (Nat → Int32) × (Nat → Int32) × (Nat → Int32) × Int32 × Int32 × Int32 × Int32 × Int32 × (Nat → Int64) × Int32 × Int32) => r = bb.2 ∧ u = RR.2) (zAt G (zTy tt) (va_A ((ao, zoc tt vo) :: wL tt a b d wd fa od hd qc qs bc bs tl rl H q w fr tr g re fi ro im r pk cz lh lp se md ff) sz) (fun u : (Nat → Int32) × Int32 × (Nat → Int32) × (Nat → Int32) × (Nat → Int32) × (Nat → Int32) × (Nat → Int32) × (Nat → Int32) × Int32 × Int32 × Int32 × Int32 × Int32 × (Nat → Int64) × (Nat → Int64) × (Nat → Int32) × (Nat → Int32) × (Nat → Int32) × Int32 × Int32 × (Nat → Int32) × Int32 × (Nat → Int32) × (Nat → Int32) × (Nat → Int32) × (Nat → Int32) × (Nat → Int32) × (Nat → Int32) × Int32 × Int32 × Int32 × Int32 × Int32 × (Nat → Int64) × Int32 × Int32 => (ao, zoc tt (zout Int32.toInt64 vo RR.1)) :: wL tt a b d wd fa od hd qc qs bc bs tl rl H (u.1, u.2.1, u.2.2.1, u.2.2.2.1, u.2.2.2.2.1, u.2.2.2.2.2.1, u.2.2.2.2.2.2.1, u.2.2.2.2.2.2.2.1, u.2.2.2.2.2.2.2.2.1, u.2.2.2.2.2.2.2.2.2.1, u.2.2.2.2.2.2.2.2.2.2.1, u.2.2.2.2.2.2.2.2.2.2.2.1, u.2.2.2.2.2.2.2.2.2.2.2.2.1) u.2.2.2.2.2.2.2.2.2.2.2.2.2.1 u.2.2.2.2.2.2.2.2.2.2.2.2.2.2.1 tr u.2.2.2.2.2.2.2.2.2.2.2.2.2.2.2.1 u.2.2.2.2.2.2.2.2.2.2.2.2.2.2.2.2.1 u.2.2.2.2.2.2.2.2.2.2.2.2.2.2.2.2.2.1 u.2.2.2.2.2.2.2.2.2.2.2.2.2.2.2.2.2.2.1 u.2.2.2.2.2.2.2.2.2.2.2.2.2.2.2.2.2.2.2.1 (u.2.2.2.2.2.2.2.2.2.2.2.2.2.2.2.2.2.2.2.2.1, u.2.2.2.2.2.2.2.2.2.2.2.2.2.2.2.2.2.2.2.2.2.1, u.2.2.2.2.2.2.2.2.2.2.2.2.2.2.2.2.2.2.2.2.2.2.1, u.2.2.2.2.2.2.2.2.2.2.2.2.2.2.2.2.2.2.2.2.2.2.2.1, u.2.2.2.2.2.2.2.2.2.2.2.2.2.2.2.2.2.2.2.2.2.2.2.2.1, u.2.2.2.2.2.2.2.2.2.2.2.2.2.2.2.2.2.2.2.2.2.2.2.2.2.1, u.2.2.2.2.2.2.2.2.2.2.2.2.2.2.2.2.2.2.2.2.2.2.2.2.2.2.1, u.2.2.2.2.2.2.2.2.2.2.2.2.2.2.2.2.2.2.2.2.2.2.2.2.2.2.2.1, u.2.2.2.2.2.2.2.2.2.2.2.2.2.2.2.2.2.2.2.2.2.2.2.2.2.2.2.2.1, u.2.2.2.2.2.2.2.2.2.2.2.2.2.2.2.2.2.2.2.2.2.2.2.2.2.2.2.2.2.1, u.2.2.2.2.2.2.2.2.2.2.2.2.2.2.2.2.2.2.2.2.2.2.2.2.2.2.2.2.2.2.1, u.2.2.2.2.2.2.2.2.2.2.2.2.2.2.2.2.2.2.2.2.2.2.2.2.2.2.2.2.2.2.2.1, u.2.2.2.2.2.2.2.2.2.2.2.2.2.2.2.2.2.2.2.2.2.2.2.2.2.2.2.2.2.2.2.2.1, u.2.2.2.2.2.2.2.2.2.2.2.2.2.2.2.2.2.2.2.2.2.2.2.2.2.2.2.2.2.2.2.2.2.1, u.2.2.2.2.2.2.2.2.2.2.2.2.2.2.2.2.2.2.2.2.2.2.2.2.2.2.2.2.2.2.2.2.2.2.1) pk cz lh lp se md u.2.2.2.2.2.2.2.2.2.2.2.2.2.2.2.2.2.2.2.2.2.2.2.2.2.2.2.2.2.2.2.2.2.2.2)) (va_A ((ao, zoc tt vo) :: wL tt a b d wd fa od hd qc qs bc bs tl rl H q w fr tr g re fi ro im r pk cz lh lp se md ff) sz)) 2 12 (va_A ((ao, zoc tt vo) :: wL tt a b d wd fa od hd qc qs bc bs tl rl H q w fr tr g re fi ro im r pk cz lh lp se md ff) sz) := by
  refine va_MetW (cc := cL_seek) (maxL := 8) (ret := (some .int)) (hh := [(0, 16, 19, 21), (0, 16, 23, 13), (0, 16, 27, 26)]) (by decide +kernel) rfl ?_
  intro p e s m args below meth c s₁ B hml hv
  obtain ⟨⟨rfl, hsz, hP, hK, hD0, hN, hX⟩, hL⟩ := hv
  have hx := B.exec
  have hb := B.bytes
  have hr := B.returns
  have hts := atoms_spec (ws := wsL_seek) B.pre
  have hown : s.vm.findClass RL = some m.cls := findClass_of_methodNamed B.named
  have hlocks := B.notSynchronized
  have htab : c.exceptionTable.toList = tableOf [(0, 16, 19, 21), (0, 16, 23, 13), (0, 16, 27, 26)] := vx_table (x := yL_seek) B (hts _ List.mem_cons_self)
  subst hsz
  have hD := hD0.self (sz := s.heap.size)
  generalize hAe : va_A ((ao, zoc tt vo) :: wL tt a b d wd fa od hd qc qs bc bs tl rl H q w fr tr g re fi ro im r pk cz lh lp se md ff) s.heap.size = A at hD hX ⊢
  have hA9 : ∀ q : Nat, s.heap.size ≤ q → A q := fun q h => by rw [← hAe]; exact Or.inr h
  have hl := lv_entry ([.ref (a 0), .int p1, .int p2, .int p3, .int p4, .int p5, .ref ao]) (n := 8) (Nat.le_of_ble_eq_true rfl)
  rw [lg_entry_eq]
  generalize (lg_sl ([.ref (a 0), .int p1, .int p2, .int p3, .int p4, .int p5, .ref ao]) ++ List.replicate (8 - (lg_sl ([.ref (a 0), .int p1, .int p2, .int p3, .int p4, .int p5, .ref ao])).length) Slot.unset).toArray = ls at hl ⊢
  have hl : lv_has ls 8 [(0, .ref (a 0)), (1, .int p1), (2, .int p2), (3, .int p3), (4, .int p4), (5, .int p5), (6, .ref ao)] := hl
  obtain ⟨H0, hHe⟩ : ∃ H : Heap, s.heap = H := ⟨_, rfl⟩
  have hS : va_S A s.heap H0 [] := by rw [← hHe]; exact va_S.rf
  rw [hHe] at hP ⊢
  have hP := zP_perm (List.perm_append_comm (l₁ := [(ao, zoc tt vo)]) (l₂ := wL tt a b d wd fa od hd qc qs bc bs tl rl H q w fr tr g re fi ro im r pk cz lh lp se md ff)) hP
  have hD := zD_perm (List.perm_append_comm (l₁ := [(ao, zoc tt vo)]) (l₂ := wL tt a b d wd fa od hd qc qs bc bs tl rl H q w fr tr g re fi ro im r pk cz lh lp se md ff)) hD
  refine lv_aload hx hb dL_seek_0 (lv_at hl 6 rfl) ?_
  refine lv_iconst (v := (0 : Int32)) hx hb dL_seek_2 (by decide) ?_
  refine lv_aload_n hx hb dL_seek_3 rfl (lv_at hl 0 rfl) ?_
  refine lv_iload_n hx hb dL_seek_4 rfl (lv_at hl 1 rfl) ?_
  refine lv_iload_n hx hb dL_seek_5 rfl (lv_at hl 2 rfl) ?_
  refine lv_iload_n hx hb dL_seek_6 rfl (lv_at hl 3 rfl) ?_
  refine lv_iload hx hb dL_seek_7 (lv_at hl 4 rfl) ?_
  refine lv_iload hx hb dL_seek_9 (lv_at hl 5 rfl) ?_
  refine z_callXi (wc := wL tt a b d wd fa od hd qc qs bc bs tl rl H q w fr tr g re fi ro im r pk cz lh lp se md ff) (wr := [(ao, zoc tt vo)]) (As := [.int p1, .int p2, .int p3, .int p4, .int p5]) (rest := [.int (0 : Int32), .ref ao]) (ci := 10) ⟨hx, hb, hml, hown, hts⟩ hK hN hX hP hD hS hA9 (nX11_seek l G tt sa hlt H0.size K a b d wd fa od hd qc qs bc bs tl rl H q w fr tr g re fi ro im r pk cz lh lp se md ff p1 p2 p3 p4 p5 RR hF) (cwV 5 hts gL_seek_X11_seek rfl rfl rfl (by decide +kernel) ⟨Nat.le_of_ble_eq_true rfl, Nat.le_of_ble_eq_true rfl⟩) rfl rfl rfl hl.1 rfl (Nat.le_of_ble_eq_true rfl) dL_seek_11 ⟨Nat.le_of_ble_eq_true rfl, Nat.le_of_ble_eq_true rfl⟩ (fun k ce q9 H0 locs hk hP hD hS hce hcv hcl => ?_) (fun rr u H0 locs hw hP hD hS => ?_)
  · rcases hA with ⟨k9, hk9, ek, rfl⟩ | ⟨v9, ev, rfl⟩
    · obtain rfl : k9 = k := Sum.inl.inj (ek.symm.trans hk)
      have hk9 : k9 = 0 ∨ k9 = 1 ∨ k9 = 3 := by simpa using hk9
      rcases hk9 with rfl | rfl | rfl
      · have hz : zout Int32.toInt64 vo RR.1 = vo := by rw [hk]; rfl
        refine vx_catch (name := zEx 0) hown [] ⟨0, 16, 19, 21⟩ [⟨0, 16, 23, 13⟩, ⟨0, 16, 27, 26⟩] (htab.trans rfl) (fun z hz => by
            exact absurd hz List.not_mem_nil) (by decide) (by decide) (hts (.classLink RL 21 (zEx 0)) (List.mem_of_getElem? (i := 1) rfl)) (zX_cast hX 0 (by decide)) hce hcv hcl ?_
        refine lv_astore (lv' := [(7, .ref q9), (0, .ref (a 0)), (1, .int p1), (2, .int p2), (3, .int p3), (4, .int p4), (5, .int p5), (6, .ref ao)]) hx hb dL_seek_19 hl (by decide) rfl (fun ls hl => ?_)
        refine lv_iconst (v := (1 : Int32)) hx hb dL_seek_21 (by decide) ?_
        exact W.iret (v := (1 : Int32)) hx hb hr (fun t ht hW => ⟨⟨(1 : Int32), RR.2, rfl, ⟨rfl, rfl⟩, by rw [ht, hz]; exact hP, va_K.moved hW.alike hK, by rw [hz]; exact hD⟩, hS.F ht⟩) hS.2.2 dL_seek_22
      · have hz : zout Int32.toInt64 vo RR.1 = vo := by rw [hk]; rfl
        refine vx_catch (name := zEx 1) hown [⟨0, 16, 19, 21⟩] ⟨0, 16, 23, 13⟩ [⟨0, 16, 27, 26⟩] (htab.trans rfl) (fun z hz => by
            rcases List.mem_cons.mp hz with rfl | hz
            · exact Or.inr ⟨by decide, zEx 0, (hts (.classLink RL 21 (zEx 0)) (List.mem_of_getElem? (i := 1) rfl)), hL 1 0 (by decide) (by decide) (by decide)⟩
            exact absurd hz List.not_mem_nil) (by decide) (by decide) (hts (.classLink RL 13 (zEx 1)) (List.mem_of_getElem? (i := 2) rfl)) (zX_cast hX 1 (by decide)) hce hcv hcl ?_
        refine lv_astore (lv' := [(7, .ref q9), (0, .ref (a 0)), (1, .int p1), (2, .int p2), (3, .int p3), (4, .int p4), (5, .int p5), (6, .ref ao)]) hx hb dL_seek_23 hl (by decide) rfl (fun ls hl => ?_)
        refine lv_iconst (v := (2 : Int32)) hx hb dL_seek_25 (by decide) ?_
        exact W.iret (v := (2 : Int32)) hx hb hr (fun t ht hW => ⟨⟨(2 : Int32), RR.2, rfl, ⟨rfl, rfl⟩, by rw [ht, hz]; exact hP, va_K.moved hW.alike hK, by rw [hz]; exact hD⟩, hS.F ht⟩) hS.2.2 dL_seek_26
      · have hz : zout Int32.toInt64 vo RR.1 = vo := by rw [hk]; rfl
        refine vx_catch (name := zEx 3) hown [⟨0, 16, 19, 21⟩, ⟨0, 16, 23, 13⟩] ⟨0, 16, 27, 26⟩ [] (htab.trans rfl) (fun z hz => by
            rcases List.mem_cons.mp hz with rfl | hz
            · exact Or.inr ⟨by decide, zEx 0, (hts (.classLink RL 21 (zEx 0)) (List.mem_of_getElem? (i := 1) rfl)), hL 3 0 (by decide) (by decide) (by decide)⟩
            rcases List.mem_cons.mp hz with rfl | hz
            · exact Or.inr ⟨by decide, zEx 1, (hts (.classLink RL 13 (zEx 1)) (List.mem_of_getElem? (i := 2) rfl)), hL 3 1 (by decide) (by decide) (by decide)⟩
            exact absurd hz List.not_mem_nil) (by decide) (by decide) (hts (.classLink RL 26 (zEx 3)) (List.mem_of_getElem? (i := 3) rfl)) (zX_cast hX 3 (by decide)) hce hcv hcl ?_
        refine lv_astore (lv' := [(7, .ref q9), (0, .ref (a 0)), (1, .int p1), (2, .int p2), (3, .int p3), (4, .int p4), (5, .int p5), (6, .ref ao)]) hx hb dL_seek_27 hl (by decide) rfl (fun ls hl => ?_)
        refine lv_iconst (v := (3 : Int32)) hx hb dL_seek_29 (by decide) ?_
        exact W.iret (v := (3 : Int32)) hx hb hr (fun t ht hW => ⟨⟨(3 : Int32), RR.2, rfl, ⟨rfl, rfl⟩, by rw [ht, hz]; exact hP, va_K.moved hW.alike hK, by rw [hz]; exact hD⟩, hS.F ht⟩) hS.2.2 dL_seek_30
    · cases hk.symm.trans ev
  · obtain ⟨er, hu⟩ := hw
    subst hu
    rcases hA with ⟨k9, hk9, ek, rfl⟩ | ⟨v9, ev, rfl⟩
    · cases er.symm.trans ek
    obtain rfl : v9 = rr := Sum.inr.inj (ev.symm.trans er)
    refine lv_i2l hx hb dL_seek_14 rfl ?_
    refine va_last hx hb hK hP hD hS 0 1 rfl rfl (inB_vp (by decide)) dL_seek_15 (fun H0 locs hP hD hS => ?_)
    have hP9 : va_P G vwCl ((ao, zoc tt (zout Int32.toInt64 vo RR.1)) :: wL tt a b d wd fa od hd qc qs bc bs tl rl H (RR.2.1, RR.2.2.1, RR.2.2.2.1, RR.2.2.2.2.1, RR.2.2.2.2.2.1, RR.2.2.2.2.2.2.1, RR.2.2.2.2.2.2.2.1, RR.2.2.2.2.2.2.2.2.1, RR.2.2.2.2.2.2.2.2.2.1, RR.2.2.2.2.2.2.2.2.2.2.1, RR.2.2.2.2.2.2.2.2.2.2.2.1, RR.2.2.2.2.2.2.2.2.2.2.2.2.1, RR.2.2.2.2.2.2.2.2.2.2.2.2.2.1) RR.2.2.2.2.2.2.2.2.2.2.2.2.2.2.1 RR.2.2.2.2.2.2.2.2.2.2.2.2.2.2.2.1 tr RR.2.2.2.2.2.2.2.2.2.2.2.2.2.2.2.2.1 RR.2.2.2.2.2.2.2.2.2.2.2.2.2.2.2.2.2.1 RR.2.2.2.2.2.2.2.2.2.2.2.2.2.2.2.2.2.2.1 RR.2.2.2.2.2.2.2.2.2.2.2.2.2.2.2.2.2.2.2.1 RR.2.2.2.2.2.2.2.2.2.2.2.2.2.2.2.2.2.2.2.2.1 (RR.2.2.2.2.2.2.2.2.2.2.2.2.2.2.2.2.2.2.2.2.2.1, RR.2.2.2.2.2.2.2.2.2.2.2.2.2.2.2.2.2.2.2.2.2.2.1, RR.2.2.2.2.2.2.2.2.2.2.2.2.2.2.2.2.2.2.2.2.2.2.2.1, RR.2.2.2.2.2.2.2.2.2.2.2.2.2.2.2.2.2.2.2.2.2.2.2.2.1, RR.2.2.2.2.2.2.2.2.2.2.2.2.2.2.2.2.2.2.2.2.2.2.2.2.2.1, RR.2.2.2.2.2.2.2.2.2.2.2.2.2.2.2.2.2.2.2.2.2.2.2.2.2.2.1, RR.2.2.2.2.2.2.2.2.2.2.2.2.2.2.2.2.2.2.2.2.2.2.2.2.2.2.2.1, RR.2.2.2.2.2.2.2.2.2.2.2.2.2.2.2.2.2.2.2.2.2.2.2.2.2.2.2.2.1, RR.2.2.2.2.2.2.2.2.2.2.2.2.2.2.2.2.2.2.2.2.2.2.2.2.2.2.2.2.2.1, RR.2.2.2.2.2.2.2.2.2.2.2.2.2.2.2.2.2.2.2.2.2.2.2.2.2.2.2.2.2.2.1, RR.2.2.2.2.2.2.2.2.2.2.2.2.2.2.2.2.2.2.2.2.2.2.2.2.2.2.2.2.2.2.2.1, RR.2.2.2.2.2.2.2.2.2.2.2.2.2.2.2.2.2.2.2.2.2.2.2.2.2.2.2.2.2.2.2.2.1, RR.2.2.2.2.2.2.2.2.2.2.2.2.2.2.2.2.2.2.2.2.2.2.2.2.2.2.2.2.2.2.2.2.2.1, RR.2.2.2.2.2.2.2.2.2.2.2.2.2.2.2.2.2.2.2.2.2.2.2.2.2.2.2.2.2.2.2.2.2.2.1, RR.2.2.2.2.2.2.2.2.2.2.2.2.2.2.2.2.2.2.2.2.2.2.2.2.2.2.2.2.2.2.2.2.2.2.2.1) pk cz lh lp se md RR.2.2.2.2.2.2.2.2.2.2.2.2.2.2.2.2.2.2.2.2.2.2.2.2.2.2.2.2.2.2.2.2.2.2.2.2) H0 := by rw [er]; exact hP
    have hD9 : va_D A ((ao, zoc tt (zout Int32.toInt64 vo RR.1)) :: wL tt a b d wd fa od hd qc qs bc bs tl rl H (RR.2.1, RR.2.2.1, RR.2.2.2.1, RR.2.2.2.2.1, RR.2.2.2.2.2.1, RR.2.2.2.2.2.2.1, RR.2.2.2.2.2.2.2.1, RR.2.2.2.2.2.2.2.2.1, RR.2.2.2.2.2.2.2.2.2.1, RR.2.2.2.2.2.2.2.2.2.2.1, RR.2.2.2.2.2.2.2.2.2.2.2.1, RR.2.2.2.2.2.2.2.2.2.2.2.2.1, RR.2.2.2.2.2.2.2.2.2.2.2.2.2.1) RR.2.2.2.2.2.2.2.2.2.2.2.2.2.2.1 RR.2.2.2.2.2.2.2.2.2.2.2.2.2.2.2.1 tr RR.2.2.2.2.2.2.2.2.2.2.2.2.2.2.2.2.1 RR.2.2.2.2.2.2.2.2.2.2.2.2.2.2.2.2.2.1 RR.2.2.2.2.2.2.2.2.2.2.2.2.2.2.2.2.2.2.1 RR.2.2.2.2.2.2.2.2.2.2.2.2.2.2.2.2.2.2.2.1 RR.2.2.2.2.2.2.2.2.2.2.2.2.2.2.2.2.2.2.2.2.1 (RR.2.2.2.2.2.2.2.2.2.2.2.2.2.2.2.2.2.2.2.2.2.1, RR.2.2.2.2.2.2.2.2.2.2.2.2.2.2.2.2.2.2.2.2.2.2.1, RR.2.2.2.2.2.2.2.2.2.2.2.2.2.2.2.2.2.2.2.2.2.2.2.1, RR.2.2.2.2.2.2.2.2.2.2.2.2.2.2.2.2.2.2.2.2.2.2.2.2.1, RR.2.2.2.2.2.2.2.2.2.2.2.2.2.2.2.2.2.2.2.2.2.2.2.2.2.1, RR.2.2.2.2.2.2.2.2.2.2.2.2.2.2.2.2.2.2.2.2.2.2.2.2.2.2.1, RR.2.2.2.2.2.2.2.2.2.2.2.2.2.2.2.2.2.2.2.2.2.2.2.2.2.2.2.1, RR.2.2.2.2.2.2.2.2.2.2.2.2.2.2.2.2.2.2.2.2.2.2.2.2.2.2.2.2.1, RR.2.2.2.2.2.2.2.2.2.2.2.2.2.2.2.2.2.2.2.2.2.2.2.2.2.2.2.2.2.1, RR.2.2.2.2.2.2.2.2.2.2.2.2.2.2.2.2.2.2.2.2.2.2.2.2.2.2.2.2.2.2.1, RR.2.2.2.2.2.2.2.2.2.2.2.2.2.2.2.2.2.2.2.2.2.2.2.2.2.2.2.2.2.2.2.1, RR.2.2.2.2.2.2.2.2.2.2.2.2.2.2.2.2.2.2.2.2.2.2.2.2.2.2.2.2.2.2.2.2.1, RR.2.2.2.2.2.2.2.2.2.2.2.2.2.2.2.2.2.2.2.2.2.2.2.2.2.2.2.2.2.2.2.2.2.1, RR.2.2.2.2.2.2.2.2.2.2.2.2.2.2.2.2.2.2.2.2.2.2.2.2.2.2.2.2.2.2.2.2.2.2.1, RR.2.2.2.2.2.2.2.2.2.2.2.2.2.2.2.2.2.2.2.2.2.2.2.2.2.2.2.2.2.2.2.2.2.2.2.1) pk cz lh lp se md RR.2.2.2.2.2.2.2.2.2.2.2.2.2.2.2.2.2.2.2.2.2.2.2.2.2.2.2.2.2.2.2.2.2.2.2.2) := by rw [er]; exact hD
    refine lv_goto (tgt := 31) hx hb dL_seek_16 (by decide) ?_
    refine lv_iconst (v := (0 : Int32)) hx hb dL_seek_31 (by decide) ?_
    exact W.iret (v := (0 : Int32)) hx hb hr (fun t ht hW => ⟨⟨(0 : Int32), RR.2, rfl, ⟨rfl, rfl⟩, by rw [ht]; exact hP9, va_K.moved hW.alike hK, hD9⟩, hS.F ht⟩) hS.2.2 dL_seek_32

set_option maxHeartbeats 4000000 in
set_option maxRecDepth 100000 in
theorem mL_leaps (l : Launch) (G : va_G) (tt : Nat → ClassId) (sa : Nat → Nat) (hlt : l.stackTraces = false) (sz : Nat) (K : Nat) (a : Nat → Nat) (b : Nat → Nat → Nat) (d : Nat → Nat → Nat → Nat) (wd : Nat → Int32) (fa : Nat → Int64) (od hd : Nat → Int32) (qc : Nat → Nat → Int32) (qs : Nat → Int32) (bc : Nat → Nat → Int32) (bs : Nat → Int32) (tl rl : Int32) (H : zH12) (q : zR13) (w fr : Nat → Int64) (tr g re fi : Nat → Int32) (ro im : Int32) (r : zR15) (pk : Int32) (cz : Nat → Int32) (lh : Int32) (lp : Int64) (se : Nat → Int32) (md : Nat → Int64) (ff : Int32) (p1 : Int32) (ao : Nat) (vo : Nat → Int64) (RR : (Nat ⊕ Int32) × (Nat → Int32) × Int32 × (Nat → Int32) × (Nat → Int32) × (Nat → Int32) × (Nat → Int32) × (Nat → Int32) × (Nat → Int32) × Int32 × Int32 × Int32 × Int32 × Int32 × (Nat → Int64) × (Nat → Int64) × (Nat → Int32) × (Nat → Int32) × (Nat → Int32) × Int32 × Int32 × (Nat → Int32) × Int32 × (Nat → Int32) × (Nat → Int32) × (Nat → Int32) × (Nat → Int32) × (Nat → Int32) × (Nat → Int32) × Int32 × Int32 × Int32 × Int32 × Int32 × (Nat → Int64) × Int32 × Int32) (hF : fX11_leaps K fa od hd qc qs bc bs rl p1 q.1 q.2.1 q.2.2.1 q.2.2.2.1 q.2.2.2.2.1 q.2.2.2.2.2.1 q.2.2.2.2.2.2.1 q.2.2.2.2.2.2.2.1 q.2.2.2.2.2.2.2.2.1 q.2.2.2.2.2.2.2.2.2.1 q.2.2.2.2.2.2.2.2.2.2.1 q.2.2.2.2.2.2.2.2.2.2.2.1 q.2.2.2.2.2.2.2.2.2.2.2.2 w fr g re fi ro im r.1 r.2.1 r.2.2.1 r.2.2.2.1 r.2.2.2.2.1 r.2.2.2.2.2.1 r.2.2.2.2.2.2.1 r.2.2.2.2.2.2.2.1 r.2.2.2.2.2.2.2.2.1 r.2.2.2.2.2.2.2.2.2.1 r.2.2.2.2.2.2.2.2.2.2.1 r.2.2.2.2.2.2.2.2.2.2.2.1 r.2.2.2.2.2.2.2.2.2.2.2.2.1 r.2.2.2.2.2.2.2.2.2.2.2.2.2.1 r.2.2.2.2.2.2.2.2.2.2.2.2.2.2 ff = some RR) (bb : Int32 × Int32) (hA : zAg [0] 0 RR.1 bb) : Met l yL_leaps wsL_leaps ({ frames := 8, cells := 1, slots := 6, locals := 185 } : Room) (zPreL G (zTy tt) sa [.ref (a 0), .int p1, .ref ao] sz ((ao, zoc tt vo) :: wL tt a b d wd fa od hd qc qs bc bs tl rl H q w fr tr g re fi ro im r pk cz lh lp se md ff)) (va_Qi (fun (r : Int32) (u : (Nat → Int32) × Int32 × (Nat → Int32) × (Nat → Int32) × (Nat → Int32) × (Nat → Int32) × (Nat → Int32) × (Nat → Int32) × Int32 × Int32 × Int32 × Int32 × Int32 × (Nat → Int64) × (Nat → Int64) × (Nat → Int32) × (Nat → Int32) × (Nat → Int32) × Int32 × Int32 × (Nat → Int32) × Int32 × (Nat → Int32) × (Nat → Int32) × (Nat → Int32) × (Nat → Int32) × (Nat → Int32) × (Nat → Int32) × Int32 × Int32 × Int32 × Int32 × Int32 × (Nat → Int64) × Int32 × Int32) => r = bb.2 ∧ u = RR.2) (zAt G (zTy tt) (va_A ((ao, zoc tt vo) :: wL tt a b d wd fa od hd qc qs bc bs tl rl H q w fr tr g re fi ro im r pk cz lh lp se md ff) sz) (fun u : (Nat → Int32) × Int32 × (Nat → Int32) × (Nat → Int32) × (Nat → Int32) × (Nat → Int32) × (Nat → Int32) × (Nat → Int32) × Int32 × Int32 × Int32 × Int32 × Int32 × (Nat → Int64) × (Nat → Int64) × (Nat → Int32) × (Nat → Int32) × (Nat → Int32) × Int32 × Int32 × (Nat → Int32) × Int32 × (Nat → Int32) × (Nat → Int32) × (Nat → Int32) × (Nat → Int32) × (Nat → Int32) × (Nat → Int32) × Int32 × Int32 × Int32 × Int32 × Int32 × (Nat → Int64) × Int32 × Int32 => (ao, zoc tt (zout Int32.toInt64 vo RR.1)) :: wL tt a b d wd fa od hd qc qs bc bs tl rl H (u.1, u.2.1, u.2.2.1, u.2.2.2.1, u.2.2.2.2.1, u.2.2.2.2.2.1, u.2.2.2.2.2.2.1, u.2.2.2.2.2.2.2.1, u.2.2.2.2.2.2.2.2.1, u.2.2.2.2.2.2.2.2.2.1, u.2.2.2.2.2.2.2.2.2.2.1, u.2.2.2.2.2.2.2.2.2.2.2.1, u.2.2.2.2.2.2.2.2.2.2.2.2.1) u.2.2.2.2.2.2.2.2.2.2.2.2.2.1 u.2.2.2.2.2.2.2.2.2.2.2.2.2.2.1 tr u.2.2.2.2.2.2.2.2.2.2.2.2.2.2.2.1 u.2.2.2.2.2.2.2.2.2.2.2.2.2.2.2.2.1 u.2.2.2.2.2.2.2.2.2.2.2.2.2.2.2.2.2.1 u.2.2.2.2.2.2.2.2.2.2.2.2.2.2.2.2.2.2.1 u.2.2.2.2.2.2.2.2.2.2.2.2.2.2.2.2.2.2.2.1 (u.2.2.2.2.2.2.2.2.2.2.2.2.2.2.2.2.2.2.2.2.1, u.2.2.2.2.2.2.2.2.2.2.2.2.2.2.2.2.2.2.2.2.2.1, u.2.2.2.2.2.2.2.2.2.2.2.2.2.2.2.2.2.2.2.2.2.2.1, u.2.2.2.2.2.2.2.2.2.2.2.2.2.2.2.2.2.2.2.2.2.2.2.1, u.2.2.2.2.2.2.2.2.2.2.2.2.2.2.2.2.2.2.2.2.2.2.2.2.1, u.2.2.2.2.2.2.2.2.2.2.2.2.2.2.2.2.2.2.2.2.2.2.2.2.2.1, u.2.2.2.2.2.2.2.2.2.2.2.2.2.2.2.2.2.2.2.2.2.2.2.2.2.2.1, u.2.2.2.2.2.2.2.2.2.2.2.2.2.2.2.2.2.2.2.2.2.2.2.2.2.2.2.1, u.2.2.2.2.2.2.2.2.2.2.2.2.2.2.2.2.2.2.2.2.2.2.2.2.2.2.2.2.1, u.2.2.2.2.2.2.2.2.2.2.2.2.2.2.2.2.2.2.2.2.2.2.2.2.2.2.2.2.2.1, u.2.2.2.2.2.2.2.2.2.2.2.2.2.2.2.2.2.2.2.2.2.2.2.2.2.2.2.2.2.2.1, u.2.2.2.2.2.2.2.2.2.2.2.2.2.2.2.2.2.2.2.2.2.2.2.2.2.2.2.2.2.2.2.1, u.2.2.2.2.2.2.2.2.2.2.2.2.2.2.2.2.2.2.2.2.2.2.2.2.2.2.2.2.2.2.2.2.1, u.2.2.2.2.2.2.2.2.2.2.2.2.2.2.2.2.2.2.2.2.2.2.2.2.2.2.2.2.2.2.2.2.2.1, u.2.2.2.2.2.2.2.2.2.2.2.2.2.2.2.2.2.2.2.2.2.2.2.2.2.2.2.2.2.2.2.2.2.2.1) pk cz lh lp se md u.2.2.2.2.2.2.2.2.2.2.2.2.2.2.2.2.2.2.2.2.2.2.2.2.2.2.2.2.2.2.2.2.2.2.2)) (va_A ((ao, zoc tt vo) :: wL tt a b d wd fa od hd qc qs bc bs tl rl H q w fr tr g re fi ro im r pk cz lh lp se md ff) sz)) 1 6 (va_A ((ao, zoc tt vo) :: wL tt a b d wd fa od hd qc qs bc bs tl rl H q w fr tr g re fi ro im r pk cz lh lp se md ff) sz) := by
  refine va_MetW (cc := cL_leaps) (maxL := 4) (ret := (some .int)) (hh := [(0, 9, 12, 21)]) (by decide +kernel) rfl ?_
  intro p e s m args below meth c s₁ B hml hv
  obtain ⟨⟨rfl, hsz, hP, hK, hD0, hN, hX⟩, hL⟩ := hv
  have hx := B.exec
  have hb := B.bytes
  have hr := B.returns
  have hts := atoms_spec (ws := wsL_leaps) B.pre
  have hown : s.vm.findClass RL = some m.cls := findClass_of_methodNamed B.named
  have hlocks := B.notSynchronized
  have htab : c.exceptionTable.toList = tableOf [(0, 9, 12, 21)] := vx_table (x := yL_leaps) B (hts _ List.mem_cons_self)
  subst hsz
  have hD := hD0.self (sz := s.heap.size)
  generalize hAe : va_A ((ao, zoc tt vo) :: wL tt a b d wd fa od hd qc qs bc bs tl rl H q w fr tr g re fi ro im r pk cz lh lp se md ff) s.heap.size = A at hD hX ⊢
  have hA9 : ∀ q : Nat, s.heap.size ≤ q → A q := fun q h => by rw [← hAe]; exact Or.inr h
  have hl := lv_entry ([.ref (a 0), .int p1, .ref ao]) (n := 4) (Nat.le_of_ble_eq_true rfl)
  rw [lg_entry_eq]
  generalize (lg_sl ([.ref (a 0), .int p1, .ref ao]) ++ List.replicate (4 - (lg_sl ([.ref (a 0), .int p1, .ref ao])).length) Slot.unset).toArray = ls at hl ⊢
  have hl : lv_has ls 4 [(0, .ref (a 0)), (1, .int p1), (2, .ref ao)] := hl
  obtain ⟨H0, hHe⟩ : ∃ H : Heap, s.heap = H := ⟨_, rfl⟩
  have hS : va_S A s.heap H0 [] := by rw [← hHe]; exact va_S.rf
  rw [hHe] at hP ⊢
  have hP := zP_perm (List.perm_append_comm (l₁ := [(ao, zoc tt vo)]) (l₂ := wL tt a b d wd fa od hd qc qs bc bs tl rl H q w fr tr g re fi ro im r pk cz lh lp se md ff)) hP
  have hD := zD_perm (List.perm_append_comm (l₁ := [(ao, zoc tt vo)]) (l₂ := wL tt a b d wd fa od hd qc qs bc bs tl rl H q w fr tr g re fi ro im r pk cz lh lp se md ff)) hD
  refine lv_aload_n hx hb dL_leaps_0 rfl (lv_at hl 2 rfl) ?_
  refine lv_iconst (v := (0 : Int32)) hx hb dL_leaps_1 (by decide) ?_
  refine lv_aload_n hx hb dL_leaps_2 rfl (lv_at hl 0 rfl) ?_
  refine lv_iload_n hx hb dL_leaps_3 rfl (lv_at hl 1 rfl) ?_
  refine z_callXi (wc := wL tt a b d wd fa od hd qc qs bc bs tl rl H q w fr tr g re fi ro im r pk cz lh lp se md ff) (wr := [(ao, zoc tt vo)]) (As := [.int p1]) (rest := [.int (0 : Int32), .ref ao]) (ci := 10) ⟨hx, hb, hml, hown, hts⟩ hK hN hX hP hD hS hA9 (nX11_leaps l G tt sa hlt H0.size K a b d wd fa od hd qc qs bc bs tl rl H q w fr tr g re fi ro im r pk cz lh lp se md ff p1 RR hF) (cwV 1 hts gL_leaps_X11_leaps rfl rfl rfl (by decide +kernel) ⟨Nat.le_of_ble_eq_true rfl, Nat.le_of_ble_eq_true rfl⟩) rfl rfl rfl hl.1 rfl (Nat.le_of_ble_eq_true rfl) dL_leaps_4 ⟨Nat.le_of_ble_eq_true rfl, Nat.le_of_ble_eq_true rfl⟩ (fun k ce q9 H0 locs hk hP hD hS hce hcv hcl => ?_) (fun rr u H0 locs hw hP hD hS => ?_)
  · rcases hA with ⟨k9, hk9, ek, rfl⟩ | ⟨v9, ev, rfl⟩
    · obtain rfl : k9 = k := Sum.inl.inj (ek.symm.trans hk)
      have hk9 : k9 = 0 := by simpa using hk9
      subst hk9
      have hz : zout Int32.toInt64 vo RR.1 = vo := by rw [hk]; rfl
      refine vx_catch (name := zEx 0) hown [] ⟨0, 9, 12, 21⟩ [] (htab.trans rfl) (fun z hz => by
          exact absurd hz List.not_mem_nil) (by decide) (by decide) (hts (.classLink RL 21 (zEx 0)) (List.mem_of_getElem? (i := 1) rfl)) (zX_cast hX 0 (by decide)) hce hcv hcl ?_
      refine lv_astore_n (lv' := [(3, .ref q9), (0, .ref (a 0)), (1, .int p1), (2, .ref ao)]) hx hb dL_leaps_12 rfl hl (by decide) rfl (fun ls hl => ?_)
      refine lv_iconst (v := (1 : Int32)) hx hb dL_leaps_13 (by decide) ?_
      exact W.iret (v := (1 : Int32)) hx hb hr (fun t ht hW => ⟨⟨(1 : Int32), RR.2, rfl, ⟨rfl, rfl⟩, by rw [ht, hz]; exact hP, va_K.moved hW.alike hK, by rw [hz]; exact hD⟩, hS.F ht⟩) hS.2.2 dL_leaps_14
    · cases hk.symm.trans ev
  · obtain ⟨er, hu⟩ := hw
    subst hu
    rcases hA with ⟨k9, hk9, ek, rfl⟩ | ⟨v9, ev, rfl⟩
    · cases er.symm.trans ek
    obtain rfl : v9 = rr := Sum.inr.inj (ev.symm.trans er)
    refine lv_i2l hx hb dL_leaps_7 rfl ?_
    refine va_last hx hb hK hP hD hS 0 1 rfl rfl (inB_vp (by decide)) dL_leaps_8 (fun H0 locs hP hD hS => ?_)
    have hP9 : va_P G vwCl ((ao, zoc tt (zout Int32.toInt64 vo RR.1)) :: wL tt a b d wd fa od hd qc qs bc bs tl rl H (RR.2.1, RR.2.2.1, RR.2.2.2.1, RR.2.2.2.2.1, RR.2.2.2.2.2.1, RR.2.2.2.2.2.2.1, RR.2.2.2.2.2.2.2.1, RR.2.2.2.2.2.2.2.2.1, RR.2.2.2.2.2.2.2.2.2.1, RR.2.2.2.2.2.2.2.2.2.2.1, RR.2.2.2.2.2.2.2.2.2.2.2.1, RR.2.2.2.2.2.2.2.2.2.2.2.2.1, RR.2.2.2.2.2.2.2.2.2.2.2.2.2.1) RR.2.2.2.2.2.2.2.2.2.2.2.2.2.2.1 RR.2.2.2.2.2.2.2.2.2.2.2.2.2.2.2.1 tr RR.2.2.2.2.2.2.2.2.2.2.2.2.2.2.2.2.1 RR.2.2.2.2.2.2.2.2.2.2.2.2.2.2.2.2.2.1 RR.2.2.2.2.2.2.2.2.2.2.2.2.2.2.2.2.2.2.1 RR.2.2.2.2.2.2.2.2.2.2.2.2.2.2.2.2.2.2.2.1 RR.2.2.2.2.2.2.2.2.2.2.2.2.2.2.2.2.2.2.2.2.1 (RR.2.2.2.2.2.2.2.2.2.2.2.2.2.2.2.2.2.2.2.2.2.1, RR.2.2.2.2.2.2.2.2.2.2.2.2.2.2.2.2.2.2.2.2.2.2.1, RR.2.2.2.2.2.2.2.2.2.2.2.2.2.2.2.2.2.2.2.2.2.2.2.1, RR.2.2.2.2.2.2.2.2.2.2.2.2.2.2.2.2.2.2.2.2.2.2.2.2.1, RR.2.2.2.2.2.2.2.2.2.2.2.2.2.2.2.2.2.2.2.2.2.2.2.2.2.1, RR.2.2.2.2.2.2.2.2.2.2.2.2.2.2.2.2.2.2.2.2.2.2.2.2.2.2.1, RR.2.2.2.2.2.2.2.2.2.2.2.2.2.2.2.2.2.2.2.2.2.2.2.2.2.2.2.1, RR.2.2.2.2.2.2.2.2.2.2.2.2.2.2.2.2.2.2.2.2.2.2.2.2.2.2.2.2.1, RR.2.2.2.2.2.2.2.2.2.2.2.2.2.2.2.2.2.2.2.2.2.2.2.2.2.2.2.2.2.1, RR.2.2.2.2.2.2.2.2.2.2.2.2.2.2.2.2.2.2.2.2.2.2.2.2.2.2.2.2.2.2.1, RR.2.2.2.2.2.2.2.2.2.2.2.2.2.2.2.2.2.2.2.2.2.2.2.2.2.2.2.2.2.2.2.1, RR.2.2.2.2.2.2.2.2.2.2.2.2.2.2.2.2.2.2.2.2.2.2.2.2.2.2.2.2.2.2.2.2.1, RR.2.2.2.2.2.2.2.2.2.2.2.2.2.2.2.2.2.2.2.2.2.2.2.2.2.2.2.2.2.2.2.2.2.1, RR.2.2.2.2.2.2.2.2.2.2.2.2.2.2.2.2.2.2.2.2.2.2.2.2.2.2.2.2.2.2.2.2.2.2.1, RR.2.2.2.2.2.2.2.2.2.2.2.2.2.2.2.2.2.2.2.2.2.2.2.2.2.2.2.2.2.2.2.2.2.2.2.1) pk cz lh lp se md RR.2.2.2.2.2.2.2.2.2.2.2.2.2.2.2.2.2.2.2.2.2.2.2.2.2.2.2.2.2.2.2.2.2.2.2.2) H0 := by rw [er]; exact hP
    have hD9 : va_D A ((ao, zoc tt (zout Int32.toInt64 vo RR.1)) :: wL tt a b d wd fa od hd qc qs bc bs tl rl H (RR.2.1, RR.2.2.1, RR.2.2.2.1, RR.2.2.2.2.1, RR.2.2.2.2.2.1, RR.2.2.2.2.2.2.1, RR.2.2.2.2.2.2.2.1, RR.2.2.2.2.2.2.2.2.1, RR.2.2.2.2.2.2.2.2.2.1, RR.2.2.2.2.2.2.2.2.2.2.1, RR.2.2.2.2.2.2.2.2.2.2.2.1, RR.2.2.2.2.2.2.2.2.2.2.2.2.1, RR.2.2.2.2.2.2.2.2.2.2.2.2.2.1) RR.2.2.2.2.2.2.2.2.2.2.2.2.2.2.1 RR.2.2.2.2.2.2.2.2.2.2.2.2.2.2.2.1 tr RR.2.2.2.2.2.2.2.2.2.2.2.2.2.2.2.2.1 RR.2.2.2.2.2.2.2.2.2.2.2.2.2.2.2.2.2.1 RR.2.2.2.2.2.2.2.2.2.2.2.2.2.2.2.2.2.2.1 RR.2.2.2.2.2.2.2.2.2.2.2.2.2.2.2.2.2.2.2.1 RR.2.2.2.2.2.2.2.2.2.2.2.2.2.2.2.2.2.2.2.2.1 (RR.2.2.2.2.2.2.2.2.2.2.2.2.2.2.2.2.2.2.2.2.2.1, RR.2.2.2.2.2.2.2.2.2.2.2.2.2.2.2.2.2.2.2.2.2.2.1, RR.2.2.2.2.2.2.2.2.2.2.2.2.2.2.2.2.2.2.2.2.2.2.2.1, RR.2.2.2.2.2.2.2.2.2.2.2.2.2.2.2.2.2.2.2.2.2.2.2.2.1, RR.2.2.2.2.2.2.2.2.2.2.2.2.2.2.2.2.2.2.2.2.2.2.2.2.2.1, RR.2.2.2.2.2.2.2.2.2.2.2.2.2.2.2.2.2.2.2.2.2.2.2.2.2.2.1, RR.2.2.2.2.2.2.2.2.2.2.2.2.2.2.2.2.2.2.2.2.2.2.2.2.2.2.2.1, RR.2.2.2.2.2.2.2.2.2.2.2.2.2.2.2.2.2.2.2.2.2.2.2.2.2.2.2.2.1, RR.2.2.2.2.2.2.2.2.2.2.2.2.2.2.2.2.2.2.2.2.2.2.2.2.2.2.2.2.2.1, RR.2.2.2.2.2.2.2.2.2.2.2.2.2.2.2.2.2.2.2.2.2.2.2.2.2.2.2.2.2.2.1, RR.2.2.2.2.2.2.2.2.2.2.2.2.2.2.2.2.2.2.2.2.2.2.2.2.2.2.2.2.2.2.2.1, RR.2.2.2.2.2.2.2.2.2.2.2.2.2.2.2.2.2.2.2.2.2.2.2.2.2.2.2.2.2.2.2.2.1, RR.2.2.2.2.2.2.2.2.2.2.2.2.2.2.2.2.2.2.2.2.2.2.2.2.2.2.2.2.2.2.2.2.2.1, RR.2.2.2.2.2.2.2.2.2.2.2.2.2.2.2.2.2.2.2.2.2.2.2.2.2.2.2.2.2.2.2.2.2.2.1, RR.2.2.2.2.2.2.2.2.2.2.2.2.2.2.2.2.2.2.2.2.2.2.2.2.2.2.2.2.2.2.2.2.2.2.2.1) pk cz lh lp se md RR.2.2.2.2.2.2.2.2.2.2.2.2.2.2.2.2.2.2.2.2.2.2.2.2.2.2.2.2.2.2.2.2.2.2.2.2) := by rw [er]; exact hD
    refine lv_goto (tgt := 15) hx hb dL_leaps_9 (by decide) ?_
    refine lv_iconst (v := (0 : Int32)) hx hb dL_leaps_15 (by decide) ?_
    exact W.iret (v := (0 : Int32)) hx hb hr (fun t ht hW => ⟨⟨(0 : Int32), RR.2, rfl, ⟨rfl, rfl⟩, by rw [ht]; exact hP9, va_K.moved hW.alike hK, hD9⟩, hS.F ht⟩) hS.2.2 dL_leaps_16

set_option maxHeartbeats 4000000 in
set_option maxRecDepth 100000 in
theorem mL_groups (l : Launch) (G : va_G) (tt : Nat → ClassId) (sa : Nat → Nat) (hlt : l.stackTraces = false) (sz : Nat) (K : Nat) (a : Nat → Nat) (b : Nat → Nat → Nat) (d : Nat → Nat → Nat → Nat) (wd : Nat → Int32) (fa : Nat → Int64) (od hd : Nat → Int32) (qc : Nat → Nat → Int32) (qs : Nat → Int32) (bc : Nat → Nat → Int32) (bs : Nat → Int32) (tl rl : Int32) (H : zH12) (q : zR13) (w fr : Nat → Int64) (tr g re fi : Nat → Int32) (ro im : Int32) (r : zR15) (pk : Int32) (cz : Nat → Int32) (lh : Int32) (lp : Int64) (se : Nat → Int32) (md : Nat → Int64) (ff : Int32) (p1 : Int32) (p2 : Int32) (ao : Nat) (vo : Nat → Int64) (RR : (Nat ⊕ Int32) × (Nat → Int32) × Int32 × (Nat → Int32) × (Nat → Int32) × (Nat → Int32) × (Nat → Int32) × (Nat → Int32) × (Nat → Int32) × Int32 × Int32 × Int32 × Int32 × Int32 × (Nat → Int64) × (Nat → Int64) × (Nat → Int32) × (Nat → Int32) × (Nat → Int32) × Int32 × Int32 × (Nat → Int32) × Int32 × (Nat → Int32) × (Nat → Int32) × (Nat → Int32) × (Nat → Int32) × (Nat → Int32) × (Nat → Int32) × Int32 × Int32 × Int32 × Int32 × Int32 × (Nat → Int64) × Int32 × Int32 × Int32) (hF : fX11_groups K fa od hd qc qs bc bs rl p1 p2 q.1 q.2.1 q.2.2.1 q.2.2.2.1 q.2.2.2.2.1 q.2.2.2.2.2.1 q.2.2.2.2.2.2.1 q.2.2.2.2.2.2.2.1 q.2.2.2.2.2.2.2.2.1 q.2.2.2.2.2.2.2.2.2.1 q.2.2.2.2.2.2.2.2.2.2.1 q.2.2.2.2.2.2.2.2.2.2.2.1 q.2.2.2.2.2.2.2.2.2.2.2.2 w fr g re fi ro im r.1 r.2.1 r.2.2.1 r.2.2.2.1 r.2.2.2.2.1 r.2.2.2.2.2.1 r.2.2.2.2.2.2.1 r.2.2.2.2.2.2.2.1 r.2.2.2.2.2.2.2.2.1 r.2.2.2.2.2.2.2.2.2.1 r.2.2.2.2.2.2.2.2.2.2.1 r.2.2.2.2.2.2.2.2.2.2.2.1 r.2.2.2.2.2.2.2.2.2.2.2.2.1 r.2.2.2.2.2.2.2.2.2.2.2.2.2.1 r.2.2.2.2.2.2.2.2.2.2.2.2.2.2 pk ff = some RR) (bb : Int32 × Int32) (hA : zAg [0] 0 RR.1 bb) : Met l yL_groups wsL_groups ({ frames := 8, cells := 2, slots := 12, locals := 188 } : Room) (zPreL G (zTy tt) sa [.ref (a 0), .int p1, .int p2, .ref ao] sz ((ao, zoc tt vo) :: wL tt a b d wd fa od hd qc qs bc bs tl rl H q w fr tr g re fi ro im r pk cz lh lp se md ff)) (va_Qi (fun (r : Int32) (u : (Nat → Int32) × Int32 × (Nat → Int32) × (Nat → Int32) × (Nat → Int32) × (Nat → Int32) × (Nat → Int32) × (Nat → Int32) × Int32 × Int32 × Int32 × Int32 × Int32 × (Nat → Int64) × (Nat → Int64) × (Nat → Int32) × (Nat → Int32) × (Nat → Int32) × Int32 × Int32 × (Nat → Int32) × Int32 × (Nat → Int32) × (Nat → Int32) × (Nat → Int32) × (Nat → Int32) × (Nat → Int32) × (Nat → Int32) × Int32 × Int32 × Int32 × Int32 × Int32 × (Nat → Int64) × Int32 × Int32 × Int32) => r = bb.2 ∧ u = RR.2) (zAt G (zTy tt) (va_A ((ao, zoc tt vo) :: wL tt a b d wd fa od hd qc qs bc bs tl rl H q w fr tr g re fi ro im r pk cz lh lp se md ff) sz) (fun u : (Nat → Int32) × Int32 × (Nat → Int32) × (Nat → Int32) × (Nat → Int32) × (Nat → Int32) × (Nat → Int32) × (Nat → Int32) × Int32 × Int32 × Int32 × Int32 × Int32 × (Nat → Int64) × (Nat → Int64) × (Nat → Int32) × (Nat → Int32) × (Nat → Int32) × Int32 × Int32 × (Nat → Int32) × Int32 × (Nat → Int32) × (Nat → Int32) × (Nat → Int32) × (Nat → Int32) × (Nat → Int32) × (Nat → Int32) × Int32 × Int32 × Int32 × Int32 × Int32 × (Nat → Int64) × Int32 × Int32 × Int32 => (ao, zoc tt (zout Int32.toInt64 vo RR.1)) :: wL tt a b d wd fa od hd qc qs bc bs tl rl H (u.1, u.2.1, u.2.2.1, u.2.2.2.1, u.2.2.2.2.1, u.2.2.2.2.2.1, u.2.2.2.2.2.2.1, u.2.2.2.2.2.2.2.1, u.2.2.2.2.2.2.2.2.1, u.2.2.2.2.2.2.2.2.2.1, u.2.2.2.2.2.2.2.2.2.2.1, u.2.2.2.2.2.2.2.2.2.2.2.1, u.2.2.2.2.2.2.2.2.2.2.2.2.1) u.2.2.2.2.2.2.2.2.2.2.2.2.2.1 u.2.2.2.2.2.2.2.2.2.2.2.2.2.2.1 tr u.2.2.2.2.2.2.2.2.2.2.2.2.2.2.2.1 u.2.2.2.2.2.2.2.2.2.2.2.2.2.2.2.2.1 u.2.2.2.2.2.2.2.2.2.2.2.2.2.2.2.2.2.1 u.2.2.2.2.2.2.2.2.2.2.2.2.2.2.2.2.2.2.1 u.2.2.2.2.2.2.2.2.2.2.2.2.2.2.2.2.2.2.2.1 (u.2.2.2.2.2.2.2.2.2.2.2.2.2.2.2.2.2.2.2.2.1, u.2.2.2.2.2.2.2.2.2.2.2.2.2.2.2.2.2.2.2.2.2.1, u.2.2.2.2.2.2.2.2.2.2.2.2.2.2.2.2.2.2.2.2.2.2.1, u.2.2.2.2.2.2.2.2.2.2.2.2.2.2.2.2.2.2.2.2.2.2.2.1, u.2.2.2.2.2.2.2.2.2.2.2.2.2.2.2.2.2.2.2.2.2.2.2.2.1, u.2.2.2.2.2.2.2.2.2.2.2.2.2.2.2.2.2.2.2.2.2.2.2.2.2.1, u.2.2.2.2.2.2.2.2.2.2.2.2.2.2.2.2.2.2.2.2.2.2.2.2.2.2.1, u.2.2.2.2.2.2.2.2.2.2.2.2.2.2.2.2.2.2.2.2.2.2.2.2.2.2.2.1, u.2.2.2.2.2.2.2.2.2.2.2.2.2.2.2.2.2.2.2.2.2.2.2.2.2.2.2.2.1, u.2.2.2.2.2.2.2.2.2.2.2.2.2.2.2.2.2.2.2.2.2.2.2.2.2.2.2.2.2.1, u.2.2.2.2.2.2.2.2.2.2.2.2.2.2.2.2.2.2.2.2.2.2.2.2.2.2.2.2.2.2.1, u.2.2.2.2.2.2.2.2.2.2.2.2.2.2.2.2.2.2.2.2.2.2.2.2.2.2.2.2.2.2.2.1, u.2.2.2.2.2.2.2.2.2.2.2.2.2.2.2.2.2.2.2.2.2.2.2.2.2.2.2.2.2.2.2.2.1, u.2.2.2.2.2.2.2.2.2.2.2.2.2.2.2.2.2.2.2.2.2.2.2.2.2.2.2.2.2.2.2.2.2.1, u.2.2.2.2.2.2.2.2.2.2.2.2.2.2.2.2.2.2.2.2.2.2.2.2.2.2.2.2.2.2.2.2.2.2.1) u.2.2.2.2.2.2.2.2.2.2.2.2.2.2.2.2.2.2.2.2.2.2.2.2.2.2.2.2.2.2.2.2.2.2.2.1 cz lh lp se md u.2.2.2.2.2.2.2.2.2.2.2.2.2.2.2.2.2.2.2.2.2.2.2.2.2.2.2.2.2.2.2.2.2.2.2.2)) (va_A ((ao, zoc tt vo) :: wL tt a b d wd fa od hd qc qs bc bs tl rl H q w fr tr g re fi ro im r pk cz lh lp se md ff) sz)) 2 12 (va_A ((ao, zoc tt vo) :: wL tt a b d wd fa od hd qc qs bc bs tl rl H q w fr tr g re fi ro im r pk cz lh lp se md ff) sz) := by
  refine va_MetW (cc := cL_groups) (maxL := 5) (ret := (some .int)) (hh := [(0, 10, 13, 21)]) (by decide +kernel) rfl ?_
  intro p e s m args below meth c s₁ B hml hv
  obtain ⟨⟨rfl, hsz, hP, hK, hD0, hN, hX⟩, hL⟩ := hv
  have hx := B.exec
  have hb := B.bytes
  have hr := B.returns
  have hts := atoms_spec (ws := wsL_groups) B.pre
  have hown : s.vm.findClass RL = some m.cls := findClass_of_methodNamed B.named
  have hlocks := B.notSynchronized
  have htab : c.exceptionTable.toList = tableOf [(0, 10, 13, 21)] := vx_table (x := yL_groups) B (hts _ List.mem_cons_self)
  subst hsz
  have hD := hD0.self (sz := s.heap.size)
  generalize hAe : va_A ((ao, zoc tt vo) :: wL tt a b d wd fa od hd qc qs bc bs tl rl H q w fr tr g re fi ro im r pk cz lh lp se md ff) s.heap.size = A at hD hX ⊢
  have hA9 : ∀ q : Nat, s.heap.size ≤ q → A q := fun q h => by rw [← hAe]; exact Or.inr h
  have hl := lv_entry ([.ref (a 0), .int p1, .int p2, .ref ao]) (n := 5) (Nat.le_of_ble_eq_true rfl)
  rw [lg_entry_eq]
  generalize (lg_sl ([.ref (a 0), .int p1, .int p2, .ref ao]) ++ List.replicate (5 - (lg_sl ([.ref (a 0), .int p1, .int p2, .ref ao])).length) Slot.unset).toArray = ls at hl ⊢
  have hl : lv_has ls 5 [(0, .ref (a 0)), (1, .int p1), (2, .int p2), (3, .ref ao)] := hl
  obtain ⟨H0, hHe⟩ : ∃ H : Heap, s.heap = H := ⟨_, rfl⟩
  have hS : va_S A s.heap H0 [] := by rw [← hHe]; exact va_S.rf
  rw [hHe] at hP ⊢
  have hP := zP_perm (List.perm_append_comm (l₁ := [(ao, zoc tt vo)]) (l₂ := wL tt a b d wd fa od hd qc qs bc bs tl rl H q w fr tr g re fi ro im r pk cz lh lp se md ff)) hP
  have hD := zD_perm (List.perm_append_comm (l₁ := [(ao, zoc tt vo)]) (l₂ := wL tt a b d wd fa od hd qc qs bc bs tl rl H q w fr tr g re fi ro im r pk cz lh lp se md ff)) hD
  refine lv_aload_n hx hb dL_groups_0 rfl (lv_at hl 3 rfl) ?_
  refine lv_iconst (v := (0 : Int32)) hx hb dL_groups_1 (by decide) ?_
  refine lv_aload_n hx hb dL_groups_2 rfl (lv_at hl 0 rfl) ?_
  refine lv_iload_n hx hb dL_groups_3 rfl (lv_at hl 1 rfl) ?_
  refine lv_iload_n hx hb dL_groups_4 rfl (lv_at hl 2 rfl) ?_
  refine z_callXi (wc := wL tt a b d wd fa od hd qc qs bc bs tl rl H q w fr tr g re fi ro im r pk cz lh lp se md ff) (wr := [(ao, zoc tt vo)]) (As := [.int p1, .int p2]) (rest := [.int (0 : Int32), .ref ao]) (ci := 10) ⟨hx, hb, hml, hown, hts⟩ hK hN hX hP hD hS hA9 (nX11_groups l G tt sa hlt H0.size K a b d wd fa od hd qc qs bc bs tl rl H q w fr tr g re fi ro im r pk cz lh lp se md ff p1 p2 RR hF) (cwV 2 hts gL_groups_X11_groups rfl rfl rfl (by decide +kernel) ⟨Nat.le_of_ble_eq_true rfl, Nat.le_of_ble_eq_true rfl⟩) rfl rfl rfl hl.1 rfl (Nat.le_of_ble_eq_true rfl) dL_groups_5 ⟨Nat.le_of_ble_eq_true rfl, Nat.le_of_ble_eq_true rfl⟩ (fun k ce q9 H0 locs hk hP hD hS hce hcv hcl => ?_) (fun rr u H0 locs hw hP hD hS => ?_)
  · rcases hA with ⟨k9, hk9, ek, rfl⟩ | ⟨v9, ev, rfl⟩
    · obtain rfl : k9 = k := Sum.inl.inj (ek.symm.trans hk)
      have hk9 : k9 = 0 := by simpa using hk9
      subst hk9
      have hz : zout Int32.toInt64 vo RR.1 = vo := by rw [hk]; rfl
      refine vx_catch (name := zEx 0) hown [] ⟨0, 10, 13, 21⟩ [] (htab.trans rfl) (fun z hz => by
          exact absurd hz List.not_mem_nil) (by decide) (by decide) (hts (.classLink RL 21 (zEx 0)) (List.mem_of_getElem? (i := 1) rfl)) (zX_cast hX 0 (by decide)) hce hcv hcl ?_
      refine lv_astore (lv' := [(4, .ref q9), (0, .ref (a 0)), (1, .int p1), (2, .int p2), (3, .ref ao)]) hx hb dL_groups_13 hl (by decide) rfl (fun ls hl => ?_)
      refine lv_iconst (v := (1 : Int32)) hx hb dL_groups_15 (by decide) ?_
      exact W.iret (v := (1 : Int32)) hx hb hr (fun t ht hW => ⟨⟨(1 : Int32), RR.2, rfl, ⟨rfl, rfl⟩, by rw [ht, hz]; exact hP, va_K.moved hW.alike hK, by rw [hz]; exact hD⟩, hS.F ht⟩) hS.2.2 dL_groups_16
    · cases hk.symm.trans ev
  · obtain ⟨er, hu⟩ := hw
    subst hu
    rcases hA with ⟨k9, hk9, ek, rfl⟩ | ⟨v9, ev, rfl⟩
    · cases er.symm.trans ek
    obtain rfl : v9 = rr := Sum.inr.inj (ev.symm.trans er)
    refine lv_i2l hx hb dL_groups_8 rfl ?_
    refine va_last hx hb hK hP hD hS 0 1 rfl rfl (inB_vp (by decide)) dL_groups_9 (fun H0 locs hP hD hS => ?_)
    have hP9 : va_P G vwCl ((ao, zoc tt (zout Int32.toInt64 vo RR.1)) :: wL tt a b d wd fa od hd qc qs bc bs tl rl H (RR.2.1, RR.2.2.1, RR.2.2.2.1, RR.2.2.2.2.1, RR.2.2.2.2.2.1, RR.2.2.2.2.2.2.1, RR.2.2.2.2.2.2.2.1, RR.2.2.2.2.2.2.2.2.1, RR.2.2.2.2.2.2.2.2.2.1, RR.2.2.2.2.2.2.2.2.2.2.1, RR.2.2.2.2.2.2.2.2.2.2.2.1, RR.2.2.2.2.2.2.2.2.2.2.2.2.1, RR.2.2.2.2.2.2.2.2.2.2.2.2.2.1) RR.2.2.2.2.2.2.2.2.2.2.2.2.2.2.1 RR.2.2.2.2.2.2.2.2.2.2.2.2.2.2.2.1 tr RR.2.2.2.2.2.2.2.2.2.2.2.2.2.2.2.2.1 RR.2.2.2.2.2.2.2.2.2.2.2.2.2.2.2.2.2.1 RR.2.2.2.2.2.2.2.2.2.2.2.2.2.2.2.2.2.2.1 RR.2.2.2.2.2.2.2.2.2.2.2.2.2.2.2.2.2.2.2.1 RR.2.2.2.2.2.2.2.2.2.2.2.2.2.2.2.2.2.2.2.2.1 (RR.2.2.2.2.2.2.2.2.2.2.2.2.2.2.2.2.2.2.2.2.2.1, RR.2.2.2.2.2.2.2.2.2.2.2.2.2.2.2.2.2.2.2.2.2.2.1, RR.2.2.2.2.2.2.2.2.2.2.2.2.2.2.2.2.2.2.2.2.2.2.2.1, RR.2.2.2.2.2.2.2.2.2.2.2.2.2.2.2.2.2.2.2.2.2.2.2.2.1, RR.2.2.2.2.2.2.2.2.2.2.2.2.2.2.2.2.2.2.2.2.2.2.2.2.2.1, RR.2.2.2.2.2.2.2.2.2.2.2.2.2.2.2.2.2.2.2.2.2.2.2.2.2.2.1, RR.2.2.2.2.2.2.2.2.2.2.2.2.2.2.2.2.2.2.2.2.2.2.2.2.2.2.2.1, RR.2.2.2.2.2.2.2.2.2.2.2.2.2.2.2.2.2.2.2.2.2.2.2.2.2.2.2.2.1, RR.2.2.2.2.2.2.2.2.2.2.2.2.2.2.2.2.2.2.2.2.2.2.2.2.2.2.2.2.2.1, RR.2.2.2.2.2.2.2.2.2.2.2.2.2.2.2.2.2.2.2.2.2.2.2.2.2.2.2.2.2.2.1, RR.2.2.2.2.2.2.2.2.2.2.2.2.2.2.2.2.2.2.2.2.2.2.2.2.2.2.2.2.2.2.2.1, RR.2.2.2.2.2.2.2.2.2.2.2.2.2.2.2.2.2.2.2.2.2.2.2.2.2.2.2.2.2.2.2.2.1, RR.2.2.2.2.2.2.2.2.2.2.2.2.2.2.2.2.2.2.2.2.2.2.2.2.2.2.2.2.2.2.2.2.2.1, RR.2.2.2.2.2.2.2.2.2.2.2.2.2.2.2.2.2.2.2.2.2.2.2.2.2.2.2.2.2.2.2.2.2.2.1, RR.2.2.2.2.2.2.2.2.2.2.2.2.2.2.2.2.2.2.2.2.2.2.2.2.2.2.2.2.2.2.2.2.2.2.2.1) RR.2.2.2.2.2.2.2.2.2.2.2.2.2.2.2.2.2.2.2.2.2.2.2.2.2.2.2.2.2.2.2.2.2.2.2.2.1 cz lh lp se md RR.2.2.2.2.2.2.2.2.2.2.2.2.2.2.2.2.2.2.2.2.2.2.2.2.2.2.2.2.2.2.2.2.2.2.2.2.2) H0 := by rw [er]; exact hP
    have hD9 : va_D A ((ao, zoc tt (zout Int32.toInt64 vo RR.1)) :: wL tt a b d wd fa od hd qc qs bc bs tl rl H (RR.2.1, RR.2.2.1, RR.2.2.2.1, RR.2.2.2.2.1, RR.2.2.2.2.2.1, RR.2.2.2.2.2.2.1, RR.2.2.2.2.2.2.2.1, RR.2.2.2.2.2.2.2.2.1, RR.2.2.2.2.2.2.2.2.2.1, RR.2.2.2.2.2.2.2.2.2.2.1, RR.2.2.2.2.2.2.2.2.2.2.2.1, RR.2.2.2.2.2.2.2.2.2.2.2.2.1, RR.2.2.2.2.2.2.2.2.2.2.2.2.2.1) RR.2.2.2.2.2.2.2.2.2.2.2.2.2.2.1 RR.2.2.2.2.2.2.2.2.2.2.2.2.2.2.2.1 tr RR.2.2.2.2.2.2.2.2.2.2.2.2.2.2.2.2.1 RR.2.2.2.2.2.2.2.2.2.2.2.2.2.2.2.2.2.1 RR.2.2.2.2.2.2.2.2.2.2.2.2.2.2.2.2.2.2.1 RR.2.2.2.2.2.2.2.2.2.2.2.2.2.2.2.2.2.2.2.1 RR.2.2.2.2.2.2.2.2.2.2.2.2.2.2.2.2.2.2.2.2.1 (RR.2.2.2.2.2.2.2.2.2.2.2.2.2.2.2.2.2.2.2.2.2.1, RR.2.2.2.2.2.2.2.2.2.2.2.2.2.2.2.2.2.2.2.2.2.2.1, RR.2.2.2.2.2.2.2.2.2.2.2.2.2.2.2.2.2.2.2.2.2.2.2.1, RR.2.2.2.2.2.2.2.2.2.2.2.2.2.2.2.2.2.2.2.2.2.2.2.2.1, RR.2.2.2.2.2.2.2.2.2.2.2.2.2.2.2.2.2.2.2.2.2.2.2.2.2.1, RR.2.2.2.2.2.2.2.2.2.2.2.2.2.2.2.2.2.2.2.2.2.2.2.2.2.2.1, RR.2.2.2.2.2.2.2.2.2.2.2.2.2.2.2.2.2.2.2.2.2.2.2.2.2.2.2.1, RR.2.2.2.2.2.2.2.2.2.2.2.2.2.2.2.2.2.2.2.2.2.2.2.2.2.2.2.2.1, RR.2.2.2.2.2.2.2.2.2.2.2.2.2.2.2.2.2.2.2.2.2.2.2.2.2.2.2.2.2.1, RR.2.2.2.2.2.2.2.2.2.2.2.2.2.2.2.2.2.2.2.2.2.2.2.2.2.2.2.2.2.2.1, RR.2.2.2.2.2.2.2.2.2.2.2.2.2.2.2.2.2.2.2.2.2.2.2.2.2.2.2.2.2.2.2.1, RR.2.2.2.2.2.2.2.2.2.2.2.2.2.2.2.2.2.2.2.2.2.2.2.2.2.2.2.2.2.2.2.2.1, RR.2.2.2.2.2.2.2.2.2.2.2.2.2.2.2.2.2.2.2.2.2.2.2.2.2.2.2.2.2.2.2.2.2.1, RR.2.2.2.2.2.2.2.2.2.2.2.2.2.2.2.2.2.2.2.2.2.2.2.2.2.2.2.2.2.2.2.2.2.2.1, RR.2.2.2.2.2.2.2.2.2.2.2.2.2.2.2.2.2.2.2.2.2.2.2.2.2.2.2.2.2.2.2.2.2.2.2.1) RR.2.2.2.2.2.2.2.2.2.2.2.2.2.2.2.2.2.2.2.2.2.2.2.2.2.2.2.2.2.2.2.2.2.2.2.2.1 cz lh lp se md RR.2.2.2.2.2.2.2.2.2.2.2.2.2.2.2.2.2.2.2.2.2.2.2.2.2.2.2.2.2.2.2.2.2.2.2.2.2) := by rw [er]; exact hD
    refine lv_goto (tgt := 17) hx hb dL_groups_10 (by decide) ?_
    refine lv_iconst (v := (0 : Int32)) hx hb dL_groups_17 (by decide) ?_
    exact W.iret (v := (0 : Int32)) hx hb hr (fun t ht hW => ⟨⟨(0 : Int32), RR.2, rfl, ⟨rfl, rfl⟩, by rw [ht]; exact hP9, va_K.moved hW.alike hK, hD9⟩, hS.F ht⟩) hS.2.2 dL_groups_18

set_option maxHeartbeats 4000000 in
set_option maxRecDepth 100000 in
theorem mL_groupSize (l : Launch) (G : va_G) (tt : Nat → ClassId) (sa : Nat → Nat) (hlt : l.stackTraces = false) (sz : Nat) (K : Nat) (a : Nat → Nat) (b : Nat → Nat → Nat) (d : Nat → Nat → Nat → Nat) (wd : Nat → Int32) (fa : Nat → Int64) (od hd : Nat → Int32) (qc : Nat → Nat → Int32) (qs : Nat → Int32) (bc : Nat → Nat → Int32) (bs : Nat → Int32) (tl rl : Int32) (H : zH12) (q : zR13) (w fr : Nat → Int64) (tr g re fi : Nat → Int32) (ro im : Int32) (r : zR15) (pk : Int32) (cz : Nat → Int32) (lh : Int32) (lp : Int64) (se : Nat → Int32) (md : Nat → Int64) (ff : Int32) (p1 : Int32) (p2 : Int32) (p3 : Int32) (ao : Nat) (vo : Nat → Int64) (RR : (Nat ⊕ Int32) × (Nat → Int32) × Int32 × (Nat → Int32) × (Nat → Int32) × (Nat → Int32) × (Nat → Int32) × (Nat → Int32) × (Nat → Int32) × Int32 × Int32 × Int32 × Int32 × Int32 × (Nat → Int64) × (Nat → Int64) × (Nat → Int32) × (Nat → Int32) × (Nat → Int32) × Int32 × Int32 × (Nat → Int32) × Int32 × (Nat → Int32) × (Nat → Int32) × (Nat → Int32) × (Nat → Int32) × (Nat → Int32) × (Nat → Int32) × Int32 × Int32 × Int32 × Int32 × Int32 × (Nat → Int64) × Int32 × Int32 × Int32) (hF : fX11_groupSize K fa od hd qc qs bc bs rl p1 p2 p3 q.1 q.2.1 q.2.2.1 q.2.2.2.1 q.2.2.2.2.1 q.2.2.2.2.2.1 q.2.2.2.2.2.2.1 q.2.2.2.2.2.2.2.1 q.2.2.2.2.2.2.2.2.1 q.2.2.2.2.2.2.2.2.2.1 q.2.2.2.2.2.2.2.2.2.2.1 q.2.2.2.2.2.2.2.2.2.2.2.1 q.2.2.2.2.2.2.2.2.2.2.2.2 w fr g re fi ro im r.1 r.2.1 r.2.2.1 r.2.2.2.1 r.2.2.2.2.1 r.2.2.2.2.2.1 r.2.2.2.2.2.2.1 r.2.2.2.2.2.2.2.1 r.2.2.2.2.2.2.2.2.1 r.2.2.2.2.2.2.2.2.2.1 r.2.2.2.2.2.2.2.2.2.2.1 r.2.2.2.2.2.2.2.2.2.2.2.1 r.2.2.2.2.2.2.2.2.2.2.2.2.1 r.2.2.2.2.2.2.2.2.2.2.2.2.2.1 r.2.2.2.2.2.2.2.2.2.2.2.2.2.2 pk ff = some RR) (bb : Int32 × Int32) (hA : zAg [0, 1] 0 RR.1 bb) : Met l yL_groupSize wsL_groupSize ({ frames := 8, cells := 3, slots := 18, locals := 187 } : Room) (zPreL G (zTy tt) sa [.ref (a 0), .int p1, .int p2, .int p3, .ref ao] sz ((ao, zoc tt vo) :: wL tt a b d wd fa od hd qc qs bc bs tl rl H q w fr tr g re fi ro im r pk cz lh lp se md ff)) (va_Qi (fun (r : Int32) (u : (Nat → Int32) × Int32 × (Nat → Int32) × (Nat → Int32) × (Nat → Int32) × (Nat → Int32) × (Nat → Int32) × (Nat → Int32) × Int32 × Int32 × Int32 × Int32 × Int32 × (Nat → Int64) × (Nat → Int64) × (Nat → Int32) × (Nat → Int32) × (Nat → Int32) × Int32 × Int32 × (Nat → Int32) × Int32 × (Nat → Int32) × (Nat → Int32) × (Nat → Int32) × (Nat → Int32) × (Nat → Int32) × (Nat → Int32) × Int32 × Int32 × Int32 × Int32 × Int32 × (Nat → Int64) × Int32 × Int32 × Int32) => r = bb.2 ∧ u = RR.2) (zAt G (zTy tt) (va_A ((ao, zoc tt vo) :: wL tt a b d wd fa od hd qc qs bc bs tl rl H q w fr tr g re fi ro im r pk cz lh lp se md ff) sz) (fun u : (Nat → Int32) × Int32 × (Nat → Int32) × (Nat → Int32) × (Nat → Int32) × (Nat → Int32) × (Nat → Int32) × (Nat → Int32) × Int32 × Int32 × Int32 × Int32 × Int32 × (Nat → Int64) × (Nat → Int64) × (Nat → Int32) × (Nat → Int32) × (Nat → Int32) × Int32 × Int32 × (Nat → Int32) × Int32 × (Nat → Int32) × (Nat → Int32) × (Nat → Int32) × (Nat → Int32) × (Nat → Int32) × (Nat → Int32) × Int32 × Int32 × Int32 × Int32 × Int32 × (Nat → Int64) × Int32 × Int32 × Int32 => (ao, zoc tt (zout Int32.toInt64 vo RR.1)) :: wL tt a b d wd fa od hd qc qs bc bs tl rl H (u.1, u.2.1, u.2.2.1, u.2.2.2.1, u.2.2.2.2.1, u.2.2.2.2.2.1, u.2.2.2.2.2.2.1, u.2.2.2.2.2.2.2.1, u.2.2.2.2.2.2.2.2.1, u.2.2.2.2.2.2.2.2.2.1, u.2.2.2.2.2.2.2.2.2.2.1, u.2.2.2.2.2.2.2.2.2.2.2.1, u.2.2.2.2.2.2.2.2.2.2.2.2.1) u.2.2.2.2.2.2.2.2.2.2.2.2.2.1 u.2.2.2.2.2.2.2.2.2.2.2.2.2.2.1 tr u.2.2.2.2.2.2.2.2.2.2.2.2.2.2.2.1 u.2.2.2.2.2.2.2.2.2.2.2.2.2.2.2.2.1 u.2.2.2.2.2.2.2.2.2.2.2.2.2.2.2.2.2.1 u.2.2.2.2.2.2.2.2.2.2.2.2.2.2.2.2.2.2.1 u.2.2.2.2.2.2.2.2.2.2.2.2.2.2.2.2.2.2.2.1 (u.2.2.2.2.2.2.2.2.2.2.2.2.2.2.2.2.2.2.2.2.1, u.2.2.2.2.2.2.2.2.2.2.2.2.2.2.2.2.2.2.2.2.2.1, u.2.2.2.2.2.2.2.2.2.2.2.2.2.2.2.2.2.2.2.2.2.2.1, u.2.2.2.2.2.2.2.2.2.2.2.2.2.2.2.2.2.2.2.2.2.2.2.1, u.2.2.2.2.2.2.2.2.2.2.2.2.2.2.2.2.2.2.2.2.2.2.2.2.1, u.2.2.2.2.2.2.2.2.2.2.2.2.2.2.2.2.2.2.2.2.2.2.2.2.2.1, u.2.2.2.2.2.2.2.2.2.2.2.2.2.2.2.2.2.2.2.2.2.2.2.2.2.2.1, u.2.2.2.2.2.2.2.2.2.2.2.2.2.2.2.2.2.2.2.2.2.2.2.2.2.2.2.1, u.2.2.2.2.2.2.2.2.2.2.2.2.2.2.2.2.2.2.2.2.2.2.2.2.2.2.2.2.1, u.2.2.2.2.2.2.2.2.2.2.2.2.2.2.2.2.2.2.2.2.2.2.2.2.2.2.2.2.2.1, u.2.2.2.2.2.2.2.2.2.2.2.2.2.2.2.2.2.2.2.2.2.2.2.2.2.2.2.2.2.2.1, u.2.2.2.2.2.2.2.2.2.2.2.2.2.2.2.2.2.2.2.2.2.2.2.2.2.2.2.2.2.2.2.1, u.2.2.2.2.2.2.2.2.2.2.2.2.2.2.2.2.2.2.2.2.2.2.2.2.2.2.2.2.2.2.2.2.1, u.2.2.2.2.2.2.2.2.2.2.2.2.2.2.2.2.2.2.2.2.2.2.2.2.2.2.2.2.2.2.2.2.2.1, u.2.2.2.2.2.2.2.2.2.2.2.2.2.2.2.2.2.2.2.2.2.2.2.2.2.2.2.2.2.2.2.2.2.2.1) u.2.2.2.2.2.2.2.2.2.2.2.2.2.2.2.2.2.2.2.2.2.2.2.2.2.2.2.2.2.2.2.2.2.2.2.1 cz lh lp se md u.2.2.2.2.2.2.2.2.2.2.2.2.2.2.2.2.2.2.2.2.2.2.2.2.2.2.2.2.2.2.2.2.2.2.2.2)) (va_A ((ao, zoc tt vo) :: wL tt a b d wd fa od hd qc qs bc bs tl rl H q w fr tr g re fi ro im r pk cz lh lp se md ff) sz)) 3 18 (va_A ((ao, zoc tt vo) :: wL tt a b d wd fa od hd qc qs bc bs tl rl H q w fr tr g re fi ro im r pk cz lh lp se md ff) sz) := by
  refine va_MetW (cc := cL_groupSize) (maxL := 6) (ret := (some .int)) (hh := [(0, 12, 15, 21), (0, 12, 19, 13)]) (by decide +kernel) rfl ?_
  intro p e s m args below meth c s₁ B hml hv
  obtain ⟨⟨rfl, hsz, hP, hK, hD0, hN, hX⟩, hL⟩ := hv
  have hx := B.exec
  have hb := B.bytes
  have hr := B.returns
  have hts := atoms_spec (ws := wsL_groupSize) B.pre
  have hown : s.vm.findClass RL = some m.cls := findClass_of_methodNamed B.named
  have hlocks := B.notSynchronized
  have htab : c.exceptionTable.toList = tableOf [(0, 12, 15, 21), (0, 12, 19, 13)] := vx_table (x := yL_groupSize) B (hts _ List.mem_cons_self)
  subst hsz
  have hD := hD0.self (sz := s.heap.size)
  generalize hAe : va_A ((ao, zoc tt vo) :: wL tt a b d wd fa od hd qc qs bc bs tl rl H q w fr tr g re fi ro im r pk cz lh lp se md ff) s.heap.size = A at hD hX ⊢
  have hA9 : ∀ q : Nat, s.heap.size ≤ q → A q := fun q h => by rw [← hAe]; exact Or.inr h
  have hl := lv_entry ([.ref (a 0), .int p1, .int p2, .int p3, .ref ao]) (n := 6) (Nat.le_of_ble_eq_true rfl)
  rw [lg_entry_eq]
  generalize (lg_sl ([.ref (a 0), .int p1, .int p2, .int p3, .ref ao]) ++ List.replicate (6 - (lg_sl ([.ref (a 0), .int p1, .int p2, .int p3, .ref ao])).length) Slot.unset).toArray = ls at hl ⊢
  have hl : lv_has ls 6 [(0, .ref (a 0)), (1, .int p1), (2, .int p2), (3, .int p3), (4, .ref ao)] := hl
  obtain ⟨H0, hHe⟩ : ∃ H : Heap, s.heap = H := ⟨_, rfl⟩
  have hS : va_S A s.heap H0 [] := by rw [← hHe]; exact va_S.rf
  rw [hHe] at hP ⊢
  have hP := zP_perm (List.perm_append_comm (l₁ := [(ao, zoc tt vo)]) (l₂ := wL tt a b d wd fa od hd qc qs bc bs tl rl H q w fr tr g re fi ro im r pk cz lh lp se md ff)) hP
  have hD := zD_perm (List.perm_append_comm (l₁ := [(ao, zoc tt vo)]) (l₂ := wL tt a b d wd fa od hd qc qs bc bs tl rl H q w fr tr g re fi ro im r pk cz lh lp se md ff)) hD
  refine lv_aload hx hb dL_groupSize_0 (lv_at hl 4 rfl) ?_
  refine lv_iconst (v := (0 : Int32)) hx hb dL_groupSize_2 (by decide) ?_
  refine lv_aload_n hx hb dL_groupSize_3 rfl (lv_at hl 0 rfl) ?_
  refine lv_iload_n hx hb dL_groupSize_4 rfl (lv_at hl 1 rfl) ?_
  refine lv_iload_n hx hb dL_groupSize_5 rfl (lv_at hl 2 rfl) ?_
  refine lv_iload_n hx hb dL_groupSize_6 rfl (lv_at hl 3 rfl) ?_
  refine z_callXi (wc := wL tt a b d wd fa od hd qc qs bc bs tl rl H q w fr tr g re fi ro im r pk cz lh lp se md ff) (wr := [(ao, zoc tt vo)]) (As := [.int p1, .int p2, .int p3]) (rest := [.int (0 : Int32), .ref ao]) (ci := 10) ⟨hx, hb, hml, hown, hts⟩ hK hN hX hP hD hS hA9 (nX11_groupSize l G tt sa hlt H0.size K a b d wd fa od hd qc qs bc bs tl rl H q w fr tr g re fi ro im r pk cz lh lp se md ff p1 p2 p3 RR hF) (cwV 3 hts gL_groupSize_X11_groupSize rfl rfl rfl (by decide +kernel) ⟨Nat.le_of_ble_eq_true rfl, Nat.le_of_ble_eq_true rfl⟩) rfl rfl rfl hl.1 rfl (Nat.le_of_ble_eq_true rfl) dL_groupSize_7 ⟨Nat.le_of_ble_eq_true rfl, Nat.le_of_ble_eq_true rfl⟩ (fun k ce q9 H0 locs hk hP hD hS hce hcv hcl => ?_) (fun rr u H0 locs hw hP hD hS => ?_)
  · rcases hA with ⟨k9, hk9, ek, rfl⟩ | ⟨v9, ev, rfl⟩
    · obtain rfl : k9 = k := Sum.inl.inj (ek.symm.trans hk)
      have hk9 : k9 = 0 ∨ k9 = 1 := by simpa using hk9
      rcases hk9 with rfl | rfl
      · have hz : zout Int32.toInt64 vo RR.1 = vo := by rw [hk]; rfl
        refine vx_catch (name := zEx 0) hown [] ⟨0, 12, 15, 21⟩ [⟨0, 12, 19, 13⟩] (htab.trans rfl) (fun z hz => by
            exact absurd hz List.not_mem_nil) (by decide) (by decide) (hts (.classLink RL 21 (zEx 0)) (List.mem_of_getElem? (i := 1) rfl)) (zX_cast hX 0 (by decide)) hce hcv hcl ?_
        refine lv_astore (lv' := [(5, .ref q9), (0, .ref (a 0)), (1, .int p1), (2, .int p2), (3, .int p3), (4, .ref ao)]) hx hb dL_groupSize_15 hl (by decide) rfl (fun ls hl => ?_)
        refine lv_iconst (v := (1 : Int32)) hx hb dL_groupSize_17 (by decide) ?_
        exact W.iret (v := (1 : Int32)) hx hb hr (fun t ht hW => ⟨⟨(1 : Int32), RR.2, rfl, ⟨rfl, rfl⟩, by rw [ht, hz]; exact hP, va_K.moved hW.alike hK, by rw [hz]; exact hD⟩, hS.F ht⟩) hS.2.2 dL_groupSize_18
      · have hz : zout Int32.toInt64 vo RR.1 = vo := by rw [hk]; rfl
        refine vx_catch (name := zEx 1) hown [⟨0, 12, 15, 21⟩] ⟨0, 12, 19, 13⟩ [] (htab.trans rfl) (fun z hz => by
            rcases List.mem_cons.mp hz with rfl | hz
            · exact Or.inr ⟨by decide, zEx 0, (hts (.classLink RL 21 (zEx 0)) (List.mem_of_getElem? (i := 1) rfl)), hL 1 0 (by decide) (by decide) (by decide)⟩
            exact absurd hz List.not_mem_nil) (by decide) (by decide) (hts (.classLink RL 13 (zEx 1)) (List.mem_of_getElem? (i := 2) rfl)) (zX_cast hX 1 (by decide)) hce hcv hcl ?_
        refine lv_astore (lv' := [(5, .ref q9), (0, .ref (a 0)), (1, .int p1), (2, .int p2), (3, .int p3), (4, .ref ao)]) hx hb dL_groupSize_19 hl (by decide) rfl (fun ls hl => ?_)
        refine lv_iconst (v := (2 : Int32)) hx hb dL_groupSize_21 (by decide) ?_
        exact W.iret (v := (2 : Int32)) hx hb hr (fun t ht hW => ⟨⟨(2 : Int32), RR.2, rfl, ⟨rfl, rfl⟩, by rw [ht, hz]; exact hP, va_K.moved hW.alike hK, by rw [hz]; exact hD⟩, hS.F ht⟩) hS.2.2 dL_groupSize_22
    · cases hk.symm.trans ev
  · obtain ⟨er, hu⟩ := hw
    subst hu
    rcases hA with ⟨k9, hk9, ek, rfl⟩ | ⟨v9, ev, rfl⟩
    · cases er.symm.trans ek
    obtain rfl : v9 = rr := Sum.inr.inj (ev.symm.trans er)
    refine lv_i2l hx hb dL_groupSize_10 rfl ?_
    refine va_last hx hb hK hP hD hS 0 1 rfl rfl (inB_vp (by decide)) dL_groupSize_11 (fun H0 locs hP hD hS => ?_)
    have hP9 : va_P G vwCl ((ao, zoc tt (zout Int32.toInt64 vo RR.1)) :: wL tt a b d wd fa od hd qc qs bc bs tl rl H (RR.2.1, RR.2.2.1, RR.2.2.2.1, RR.2.2.2.2.1, RR.2.2.2.2.2.1, RR.2.2.2.2.2.2.1, RR.2.2.2.2.2.2.2.1, RR.2.2.2.2.2.2.2.2.1, RR.2.2.2.2.2.2.2.2.2.1, RR.2.2.2.2.2.2.2.2.2.2.1, RR.2.2.2.2.2.2.2.2.2.2.2.1, RR.2.2.2.2.2.2.2.2.2.2.2.2.1, RR.2.2.2.2.2.2.2.2.2.2.2.2.2.1) RR.2.2.2.2.2.2.2.2.2.2.2.2.2.2.1 RR.2.2.2.2.2.2.2.2.2.2.2.2.2.2.2.1 tr RR.2.2.2.2.2.2.2.2.2.2.2.2.2.2.2.2.1 RR.2.2.2.2.2.2.2.2.2.2.2.2.2.2.2.2.2.1 RR.2.2.2.2.2.2.2.2.2.2.2.2.2.2.2.2.2.2.1 RR.2.2.2.2.2.2.2.2.2.2.2.2.2.2.2.2.2.2.2.1 RR.2.2.2.2.2.2.2.2.2.2.2.2.2.2.2.2.2.2.2.2.1 (RR.2.2.2.2.2.2.2.2.2.2.2.2.2.2.2.2.2.2.2.2.2.1, RR.2.2.2.2.2.2.2.2.2.2.2.2.2.2.2.2.2.2.2.2.2.2.1, RR.2.2.2.2.2.2.2.2.2.2.2.2.2.2.2.2.2.2.2.2.2.2.2.1, RR.2.2.2.2.2.2.2.2.2.2.2.2.2.2.2.2.2.2.2.2.2.2.2.2.1, RR.2.2.2.2.2.2.2.2.2.2.2.2.2.2.2.2.2.2.2.2.2.2.2.2.2.1, RR.2.2.2.2.2.2.2.2.2.2.2.2.2.2.2.2.2.2.2.2.2.2.2.2.2.2.1, RR.2.2.2.2.2.2.2.2.2.2.2.2.2.2.2.2.2.2.2.2.2.2.2.2.2.2.2.1, RR.2.2.2.2.2.2.2.2.2.2.2.2.2.2.2.2.2.2.2.2.2.2.2.2.2.2.2.2.1, RR.2.2.2.2.2.2.2.2.2.2.2.2.2.2.2.2.2.2.2.2.2.2.2.2.2.2.2.2.2.1, RR.2.2.2.2.2.2.2.2.2.2.2.2.2.2.2.2.2.2.2.2.2.2.2.2.2.2.2.2.2.2.1, RR.2.2.2.2.2.2.2.2.2.2.2.2.2.2.2.2.2.2.2.2.2.2.2.2.2.2.2.2.2.2.2.1, RR.2.2.2.2.2.2.2.2.2.2.2.2.2.2.2.2.2.2.2.2.2.2.2.2.2.2.2.2.2.2.2.2.1, RR.2.2.2.2.2.2.2.2.2.2.2.2.2.2.2.2.2.2.2.2.2.2.2.2.2.2.2.2.2.2.2.2.2.1, RR.2.2.2.2.2.2.2.2.2.2.2.2.2.2.2.2.2.2.2.2.2.2.2.2.2.2.2.2.2.2.2.2.2.2.1, RR.2.2.2.2.2.2.2.2.2.2.2.2.2.2.2.2.2.2.2.2.2.2.2.2.2.2.2.2.2.2.2.2.2.2.2.1) RR.2.2.2.2.2.2.2.2.2.2.2.2.2.2.2.2.2.2.2.2.2.2.2.2.2.2.2.2.2.2.2.2.2.2.2.2.1 cz lh lp se md RR.2.2.2.2.2.2.2.2.2.2.2.2.2.2.2.2.2.2.2.2.2.2.2.2.2.2.2.2.2.2.2.2.2.2.2.2.2) H0 := by rw [er]; exact hP
    have hD9 : va_D A ((ao, zoc tt (zout Int32.toInt64 vo RR.1)) :: wL tt a b d wd fa od hd qc qs bc bs tl rl H (RR.2.1, RR.2.2.1, RR.2.2.2.1, RR.2.2.2.2.1, RR.2.2.2.2.2.1, RR.2.2.2.2.2.2.1, RR.2.2.2.2.2.2.2.1, RR.2.2.2.2.2.2.2.2.1, RR.2.2.2.2.2.2.2.2.2.1, RR.2.2.2.2.2.2.2.2.2.2.1, RR.2.2.2.2.2.2.2.2.2.2.2.1, RR.2.2.2.2.2.2.2.2.2.2.2.2.1, RR.2.2.2.2.2.2.2.2.2.2.2.2.2.1) RR.2.2.2.2.2.2.2.2.2.2.2.2.2.2.1 RR.2.2.2.2.2.2.2.2.2.2.2.2.2.2.2.1 tr RR.2.2.2.2.2.2.2.2.2.2.2.2.2.2.2.2.1 RR.2.2.2.2.2.2.2.2.2.2.2.2.2.2.2.2.2.1 RR.2.2.2.2.2.2.2.2.2.2.2.2.2.2.2.2.2.2.1 RR.2.2.2.2.2.2.2.2.2.2.2.2.2.2.2.2.2.2.2.1 RR.2.2.2.2.2.2.2.2.2.2.2.2.2.2.2.2.2.2.2.2.1 (RR.2.2.2.2.2.2.2.2.2.2.2.2.2.2.2.2.2.2.2.2.2.1, RR.2.2.2.2.2.2.2.2.2.2.2.2.2.2.2.2.2.2.2.2.2.2.1, RR.2.2.2.2.2.2.2.2.2.2.2.2.2.2.2.2.2.2.2.2.2.2.2.1, RR.2.2.2.2.2.2.2.2.2.2.2.2.2.2.2.2.2.2.2.2.2.2.2.2.1, RR.2.2.2.2.2.2.2.2.2.2.2.2.2.2.2.2.2.2.2.2.2.2.2.2.2.1, RR.2.2.2.2.2.2.2.2.2.2.2.2.2.2.2.2.2.2.2.2.2.2.2.2.2.2.1, RR.2.2.2.2.2.2.2.2.2.2.2.2.2.2.2.2.2.2.2.2.2.2.2.2.2.2.2.1, RR.2.2.2.2.2.2.2.2.2.2.2.2.2.2.2.2.2.2.2.2.2.2.2.2.2.2.2.2.1, RR.2.2.2.2.2.2.2.2.2.2.2.2.2.2.2.2.2.2.2.2.2.2.2.2.2.2.2.2.2.1, RR.2.2.2.2.2.2.2.2.2.2.2.2.2.2.2.2.2.2.2.2.2.2.2.2.2.2.2.2.2.2.1, RR.2.2.2.2.2.2.2.2.2.2.2.2.2.2.2.2.2.2.2.2.2.2.2.2.2.2.2.2.2.2.2.1, RR.2.2.2.2.2.2.2.2.2.2.2.2.2.2.2.2.2.2.2.2.2.2.2.2.2.2.2.2.2.2.2.2.1, RR.2.2.2.2.2.2.2.2.2.2.2.2.2.2.2.2.2.2.2.2.2.2.2.2.2.2.2.2.2.2.2.2.2.1, RR.2.2.2.2.2.2.2.2.2.2.2.2.2.2.2.2.2.2.2.2.2.2.2.2.2.2.2.2.2.2.2.2.2.2.1, RR.2.2.2.2.2.2.2.2.2.2.2.2.2.2.2.2.2.2.2.2.2.2.2.2.2.2.2.2.2.2.2.2.2.2.2.1) RR.2.2.2.2.2.2.2.2.2.2.2.2.2.2.2.2.2.2.2.2.2.2.2.2.2.2.2.2.2.2.2.2.2.2.2.2.1 cz lh lp se md RR.2.2.2.2.2.2.2.2.2.2.2.2.2.2.2.2.2.2.2.2.2.2.2.2.2.2.2.2.2.2.2.2.2.2.2.2.2) := by rw [er]; exact hD
    refine lv_goto (tgt := 23) hx hb dL_groupSize_12 (by decide) ?_
    refine lv_iconst (v := (0 : Int32)) hx hb dL_groupSize_23 (by decide) ?_
    exact W.iret (v := (0 : Int32)) hx hb hr (fun t ht hW => ⟨⟨(0 : Int32), RR.2, rfl, ⟨rfl, rfl⟩, by rw [ht]; exact hP9, va_K.moved hW.alike hK, hD9⟩, hS.F ht⟩) hS.2.2 dL_groupSize_24

set_option maxHeartbeats 4000000 in
set_option maxRecDepth 100000 in
theorem mL_idleRows (l : Launch) (G : va_G) (tt : Nat → ClassId) (sa : Nat → Nat) (hlt : l.stackTraces = false) (sz : Nat) (K : Nat) (a : Nat → Nat) (b : Nat → Nat → Nat) (d : Nat → Nat → Nat → Nat) (wd : Nat → Int32) (fa : Nat → Int64) (od hd : Nat → Int32) (qc : Nat → Nat → Int32) (qs : Nat → Int32) (bc : Nat → Nat → Int32) (bs : Nat → Int32) (tl rl : Int32) (H : zH12) (q : zR13) (w fr : Nat → Int64) (tr g re fi : Nat → Int32) (ro im : Int32) (r : zR15) (pk : Int32) (cz : Nat → Int32) (lh : Int32) (lp : Int64) (se : Nat → Int32) (md : Nat → Int64) (ff : Int32) (p1 : Int32) (p2 : Int32) (ao : Nat) (vo : Nat → Int64) (RR : (Nat ⊕ Int32) × (Nat → Int32) × Int32 × (Nat → Int32) × (Nat → Int32) × (Nat → Int32) × (Nat → Int32) × (Nat → Int32) × (Nat → Int32) × Int32 × Int32 × Int32 × Int32 × Int32 × (Nat → Int64) × (Nat → Int64) × (Nat → Int32) × (Nat → Int32) × (Nat → Int32) × Int32 × Int32 × (Nat → Int32) × Int32 × (Nat → Int32) × (Nat → Int32) × (Nat → Int32) × (Nat → Int32) × (Nat → Int32) × (Nat → Int32) × Int32 × Int32 × Int32 × Int32 × Int32 × (Nat → Int64) × Int32 × Int32 × (Nat → Int64) × Int32) (hF : fX11_idleRows K fa od hd qc qs bc bs rl p1 p2 q.1 q.2.1 q.2.2.1 q.2.2.2.1 q.2.2.2.2.1 q.2.2.2.2.2.1 q.2.2.2.2.2.2.1 q.2.2.2.2.2.2.2.1 q.2.2.2.2.2.2.2.2.1 q.2.2.2.2.2.2.2.2.2.1 q.2.2.2.2.2.2.2.2.2.2.1 q.2.2.2.2.2.2.2.2.2.2.2.1 q.2.2.2.2.2.2.2.2.2.2.2.2 w fr g re fi ro im r.1 r.2.1 r.2.2.1 r.2.2.2.1 r.2.2.2.2.1 r.2.2.2.2.2.1 r.2.2.2.2.2.2.1 r.2.2.2.2.2.2.2.1 r.2.2.2.2.2.2.2.2.1 r.2.2.2.2.2.2.2.2.2.1 r.2.2.2.2.2.2.2.2.2.2.1 r.2.2.2.2.2.2.2.2.2.2.2.1 r.2.2.2.2.2.2.2.2.2.2.2.2.1 r.2.2.2.2.2.2.2.2.2.2.2.2.2.1 r.2.2.2.2.2.2.2.2.2.2.2.2.2.2 pk md ff = some RR) (bb : Int32 × Int32) (hA : zAg [0] 0 RR.1 bb) : Met l yL_idleRows wsL_idleRows ({ frames := 8, cells := 2, slots := 12, locals := 188 } : Room) (zPreL G (zTy tt) sa [.ref (a 0), .int p1, .int p2, .ref ao] sz ((ao, zoc tt vo) :: wL tt a b d wd fa od hd qc qs bc bs tl rl H q w fr tr g re fi ro im r pk cz lh lp se md ff)) (va_Qi (fun (r : Int32) (u : (Nat → Int32) × Int32 × (Nat → Int32) × (Nat → Int32) × (Nat → Int32) × (Nat → Int32) × (Nat → Int32) × (Nat → Int32) × Int32 × Int32 × Int32 × Int32 × Int32 × (Nat → Int64) × (Nat → Int64) × (Nat → Int32) × (Nat → Int32) × (Nat → Int32) × Int32 × Int32 × (Nat → Int32) × Int32 × (Nat → Int32) × (Nat → Int32) × (Nat → Int32) × (Nat → Int32) × (Nat → Int32) × (Nat → Int32) × Int32 × Int32 × Int32 × Int32 × Int32 × (Nat → Int64) × Int32 × Int32 × (Nat → Int64) × Int32) => r = bb.2 ∧ u = RR.2) (zAt G (zTy tt) (va_A ((ao, zoc tt vo) :: wL tt a b d wd fa od hd qc qs bc bs tl rl H q w fr tr g re fi ro im r pk cz lh lp se md ff) sz) (fun u : (Nat → Int32) × Int32 × (Nat → Int32) × (Nat → Int32) × (Nat → Int32) × (Nat → Int32) × (Nat → Int32) × (Nat → Int32) × Int32 × Int32 × Int32 × Int32 × Int32 × (Nat → Int64) × (Nat → Int64) × (Nat → Int32) × (Nat → Int32) × (Nat → Int32) × Int32 × Int32 × (Nat → Int32) × Int32 × (Nat → Int32) × (Nat → Int32) × (Nat → Int32) × (Nat → Int32) × (Nat → Int32) × (Nat → Int32) × Int32 × Int32 × Int32 × Int32 × Int32 × (Nat → Int64) × Int32 × Int32 × (Nat → Int64) × Int32 => (ao, zoc tt (zout Int32.toInt64 vo RR.1)) :: wL tt a b d wd fa od hd qc qs bc bs tl rl H (u.1, u.2.1, u.2.2.1, u.2.2.2.1, u.2.2.2.2.1, u.2.2.2.2.2.1, u.2.2.2.2.2.2.1, u.2.2.2.2.2.2.2.1, u.2.2.2.2.2.2.2.2.1, u.2.2.2.2.2.2.2.2.2.1, u.2.2.2.2.2.2.2.2.2.2.1, u.2.2.2.2.2.2.2.2.2.2.2.1, u.2.2.2.2.2.2.2.2.2.2.2.2.1) u.2.2.2.2.2.2.2.2.2.2.2.2.2.1 u.2.2.2.2.2.2.2.2.2.2.2.2.2.2.1 tr u.2.2.2.2.2.2.2.2.2.2.2.2.2.2.2.1 u.2.2.2.2.2.2.2.2.2.2.2.2.2.2.2.2.1 u.2.2.2.2.2.2.2.2.2.2.2.2.2.2.2.2.2.1 u.2.2.2.2.2.2.2.2.2.2.2.2.2.2.2.2.2.2.1 u.2.2.2.2.2.2.2.2.2.2.2.2.2.2.2.2.2.2.2.1 (u.2.2.2.2.2.2.2.2.2.2.2.2.2.2.2.2.2.2.2.2.1, u.2.2.2.2.2.2.2.2.2.2.2.2.2.2.2.2.2.2.2.2.2.1, u.2.2.2.2.2.2.2.2.2.2.2.2.2.2.2.2.2.2.2.2.2.2.1, u.2.2.2.2.2.2.2.2.2.2.2.2.2.2.2.2.2.2.2.2.2.2.2.1, u.2.2.2.2.2.2.2.2.2.2.2.2.2.2.2.2.2.2.2.2.2.2.2.2.1, u.2.2.2.2.2.2.2.2.2.2.2.2.2.2.2.2.2.2.2.2.2.2.2.2.2.1, u.2.2.2.2.2.2.2.2.2.2.2.2.2.2.2.2.2.2.2.2.2.2.2.2.2.2.1, u.2.2.2.2.2.2.2.2.2.2.2.2.2.2.2.2.2.2.2.2.2.2.2.2.2.2.2.1, u.2.2.2.2.2.2.2.2.2.2.2.2.2.2.2.2.2.2.2.2.2.2.2.2.2.2.2.2.1, u.2.2.2.2.2.2.2.2.2.2.2.2.2.2.2.2.2.2.2.2.2.2.2.2.2.2.2.2.2.1, u.2.2.2.2.2.2.2.2.2.2.2.2.2.2.2.2.2.2.2.2.2.2.2.2.2.2.2.2.2.2.1, u.2.2.2.2.2.2.2.2.2.2.2.2.2.2.2.2.2.2.2.2.2.2.2.2.2.2.2.2.2.2.2.1, u.2.2.2.2.2.2.2.2.2.2.2.2.2.2.2.2.2.2.2.2.2.2.2.2.2.2.2.2.2.2.2.2.1, u.2.2.2.2.2.2.2.2.2.2.2.2.2.2.2.2.2.2.2.2.2.2.2.2.2.2.2.2.2.2.2.2.2.1, u.2.2.2.2.2.2.2.2.2.2.2.2.2.2.2.2.2.2.2.2.2.2.2.2.2.2.2.2.2.2.2.2.2.2.1) u.2.2.2.2.2.2.2.2.2.2.2.2.2.2.2.2.2.2.2.2.2.2.2.2.2.2.2.2.2.2.2.2.2.2.2.1 cz lh lp se u.2.2.2.2.2.2.2.2.2.2.2.2.2.2.2.2.2.2.2.2.2.2.2.2.2.2.2.2.2.2.2.2.2.2.2.2.1 u.2.2.2.2.2.2.2.2.2.2.2.2.2.2.2.2.2.2.2.2.2.2.2.2.2.2.2.2.2.2.2.2.2.2.2.2.2)) (va_A ((ao, zoc tt vo) :: wL tt a b d wd fa od hd qc qs bc bs tl rl H q w fr tr g re fi ro im r pk cz lh lp se md ff) sz)) 2 12 (va_A ((ao, zoc tt vo) :: wL tt a b d wd fa od hd qc qs bc bs tl rl H q w fr tr g re fi ro im r pk cz lh lp se md ff) sz) := by
  refine va_MetW (cc := cL_idleRows) (maxL := 5) (ret := (some .int)) (hh := [(0, 10, 13, 21)]) (by decide +kernel) rfl ?_
  intro p e s m args below meth c s₁ B hml hv
  obtain ⟨⟨rfl, hsz, hP, hK, hD0, hN, hX⟩, hL⟩ := hv
  have hx := B.exec
  have hb := B.bytes
  have hr := B.returns
  have hts := atoms_spec (ws := wsL_idleRows) B.pre
  have hown : s.vm.findClass RL = some m.cls := findClass_of_methodNamed B.named
  have hlocks := B.notSynchronized
  have htab : c.exceptionTable.toList = tableOf [(0, 10, 13, 21)] := vx_table (x := yL_idleRows) B (hts _ List.mem_cons_self)
  subst hsz
  have hD := hD0.self (sz := s.heap.size)
  generalize hAe : va_A ((ao, zoc tt vo) :: wL tt a b d wd fa od hd qc qs bc bs tl rl H q w fr tr g re fi ro im r pk cz lh lp se md ff) s.heap.size = A at hD hX ⊢
  have hA9 : ∀ q : Nat, s.heap.size ≤ q → A q := fun q h => by rw [← hAe]; exact Or.inr h
  have hl := lv_entry ([.ref (a 0), .int p1, .int p2, .ref ao]) (n := 5) (Nat.le_of_ble_eq_true rfl)
  rw [lg_entry_eq]
  generalize (lg_sl ([.ref (a 0), .int p1, .int p2, .ref ao]) ++ List.replicate (5 - (lg_sl ([.ref (a 0), .int p1, .int p2, .ref ao])).length) Slot.unset).toArray = ls at hl ⊢
  have hl : lv_has ls 5 [(0, .ref (a 0)), (1, .int p1), (2, .int p2), (3, .ref ao)] := hl
  obtain ⟨H0, hHe⟩ : ∃ H : Heap, s.heap = H := ⟨_, rfl⟩
  have hS : va_S A s.heap H0 [] := by rw [← hHe]; exact va_S.rf
  rw [hHe] at hP ⊢
  have hP := zP_perm (List.perm_append_comm (l₁ := [(ao, zoc tt vo)]) (l₂ := wL tt a b d wd fa od hd qc qs bc bs tl rl H q w fr tr g re fi ro im r pk cz lh lp se md ff)) hP
  have hD := zD_perm (List.perm_append_comm (l₁ := [(ao, zoc tt vo)]) (l₂ := wL tt a b d wd fa od hd qc qs bc bs tl rl H q w fr tr g re fi ro im r pk cz lh lp se md ff)) hD
  refine lv_aload_n hx hb dL_idleRows_0 rfl (lv_at hl 3 rfl) ?_
  refine lv_iconst (v := (0 : Int32)) hx hb dL_idleRows_1 (by decide) ?_
  refine lv_aload_n hx hb dL_idleRows_2 rfl (lv_at hl 0 rfl) ?_
  refine lv_iload_n hx hb dL_idleRows_3 rfl (lv_at hl 1 rfl) ?_
  refine lv_iload_n hx hb dL_idleRows_4 rfl (lv_at hl 2 rfl) ?_
  refine z_callXi (wc := wL tt a b d wd fa od hd qc qs bc bs tl rl H q w fr tr g re fi ro im r pk cz lh lp se md ff) (wr := [(ao, zoc tt vo)]) (As := [.int p1, .int p2]) (rest := [.int (0 : Int32), .ref ao]) (ci := 10) ⟨hx, hb, hml, hown, hts⟩ hK hN hX hP hD hS hA9 (nX11_idleRows l G tt sa hlt H0.size K a b d wd fa od hd qc qs bc bs tl rl H q w fr tr g re fi ro im r pk cz lh lp se md ff p1 p2 RR hF) (cwV 2 hts gL_idleRows_X11_idleRows rfl rfl rfl (by decide +kernel) ⟨Nat.le_of_ble_eq_true rfl, Nat.le_of_ble_eq_true rfl⟩) rfl rfl rfl hl.1 rfl (Nat.le_of_ble_eq_true rfl) dL_idleRows_5 ⟨Nat.le_of_ble_eq_true rfl, Nat.le_of_ble_eq_true rfl⟩ (fun k ce q9 H0 locs hk hP hD hS hce hcv hcl => ?_) (fun rr u H0 locs hw hP hD hS => ?_)
  · rcases hA with ⟨k9, hk9, ek, rfl⟩ | ⟨v9, ev, rfl⟩
    · obtain rfl : k9 = k := Sum.inl.inj (ek.symm.trans hk)
      have hk9 : k9 = 0 := by simpa using hk9
      subst hk9
      have hz : zout Int32.toInt64 vo RR.1 = vo := by rw [hk]; rfl
      refine vx_catch (name := zEx 0) hown [] ⟨0, 10, 13, 21⟩ [] (htab.trans rfl) (fun z hz => by
          exact absurd hz List.not_mem_nil) (by decide) (by decide) (hts (.classLink RL 21 (zEx 0)) (List.mem_of_getElem? (i := 1) rfl)) (zX_cast hX 0 (by decide)) hce hcv hcl ?_
      refine lv_astore (lv' := [(4, .ref q9), (0, .ref (a 0)), (1, .int p1), (2, .int p2), (3, .ref ao)]) hx hb dL_idleRows_13 hl (by decide) rfl (fun ls hl => ?_)
      refine lv_iconst (v := (1 : Int32)) hx hb dL_idleRows_15 (by decide) ?_
      exact W.iret (v := (1 : Int32)) hx hb hr (fun t ht hW => ⟨⟨(1 : Int32), RR.2, rfl, ⟨rfl, rfl⟩, by rw [ht, hz]; exact hP, va_K.moved hW.alike hK, by rw [hz]; exact hD⟩, hS.F ht⟩) hS.2.2 dL_idleRows_16
    · cases hk.symm.trans ev
  · obtain ⟨er, hu⟩ := hw
    subst hu
    rcases hA with ⟨k9, hk9, ek, rfl⟩ | ⟨v9, ev, rfl⟩
    · cases er.symm.trans ek
    obtain rfl : v9 = rr := Sum.inr.inj (ev.symm.trans er)
    refine lv_i2l hx hb dL_idleRows_8 rfl ?_
    refine va_last hx hb hK hP hD hS 0 1 rfl rfl (inB_vp (by decide)) dL_idleRows_9 (fun H0 locs hP hD hS => ?_)
    have hP9 : va_P G vwCl ((ao, zoc tt (zout Int32.toInt64 vo RR.1)) :: wL tt a b d wd fa od hd qc qs bc bs tl rl H (RR.2.1, RR.2.2.1, RR.2.2.2.1, RR.2.2.2.2.1, RR.2.2.2.2.2.1, RR.2.2.2.2.2.2.1, RR.2.2.2.2.2.2.2.1, RR.2.2.2.2.2.2.2.2.1, RR.2.2.2.2.2.2.2.2.2.1, RR.2.2.2.2.2.2.2.2.2.2.1, RR.2.2.2.2.2.2.2.2.2.2.2.1, RR.2.2.2.2.2.2.2.2.2.2.2.2.1, RR.2.2.2.2.2.2.2.2.2.2.2.2.2.1) RR.2.2.2.2.2.2.2.2.2.2.2.2.2.2.1 RR.2.2.2.2.2.2.2.2.2.2.2.2.2.2.2.1 tr RR.2.2.2.2.2.2.2.2.2.2.2.2.2.2.2.2.1 RR.2.2.2.2.2.2.2.2.2.2.2.2.2.2.2.2.2.1 RR.2.2.2.2.2.2.2.2.2.2.2.2.2.2.2.2.2.2.1 RR.2.2.2.2.2.2.2.2.2.2.2.2.2.2.2.2.2.2.2.1 RR.2.2.2.2.2.2.2.2.2.2.2.2.2.2.2.2.2.2.2.2.1 (RR.2.2.2.2.2.2.2.2.2.2.2.2.2.2.2.2.2.2.2.2.2.1, RR.2.2.2.2.2.2.2.2.2.2.2.2.2.2.2.2.2.2.2.2.2.2.1, RR.2.2.2.2.2.2.2.2.2.2.2.2.2.2.2.2.2.2.2.2.2.2.2.1, RR.2.2.2.2.2.2.2.2.2.2.2.2.2.2.2.2.2.2.2.2.2.2.2.2.1, RR.2.2.2.2.2.2.2.2.2.2.2.2.2.2.2.2.2.2.2.2.2.2.2.2.2.1, RR.2.2.2.2.2.2.2.2.2.2.2.2.2.2.2.2.2.2.2.2.2.2.2.2.2.2.1, RR.2.2.2.2.2.2.2.2.2.2.2.2.2.2.2.2.2.2.2.2.2.2.2.2.2.2.2.1, RR.2.2.2.2.2.2.2.2.2.2.2.2.2.2.2.2.2.2.2.2.2.2.2.2.2.2.2.2.1, RR.2.2.2.2.2.2.2.2.2.2.2.2.2.2.2.2.2.2.2.2.2.2.2.2.2.2.2.2.2.1, RR.2.2.2.2.2.2.2.2.2.2.2.2.2.2.2.2.2.2.2.2.2.2.2.2.2.2.2.2.2.2.1, RR.2.2.2.2.2.2.2.2.2.2.2.2.2.2.2.2.2.2.2.2.2.2.2.2.2.2.2.2.2.2.2.1, RR.2.2.2.2.2.2.2.2.2.2.2.2.2.2.2.2.2.2.2.2.2.2.2.2.2.2.2.2.2.2.2.2.1, RR.2.2.2.2.2.2.2.2.2.2.2.2.2.2.2.2.2.2.2.2.2.2.2.2.2.2.2.2.2.2.2.2.2.1, RR.2.2.2.2.2.2.2.2.2.2.2.2.2.2.2.2.2.2.2.2.2.2.2.2.2.2.2.2.2.2.2.2.2.2.1, RR.2.2.2.2.2.2.2.2.2.2.2.2.2.2.2.2.2.2.2.2.2.2.2.2.2.2.2.2.2.2.2.2.2.2.2.1) RR.2.2.2.2.2.2.2.2.2.2.2.2.2.2.2.2.2.2.2.2.2.2.2.2.2.2.2.2.2.2.2.2.2.2.2.2.1 cz lh lp se RR.2.2.2.2.2.2.2.2.2.2.2.2.2.2.2.2.2.2.2.2.2.2.2.2.2.2.2.2.2.2.2.2.2.2.2.2.2.1 RR.2.2.2.2.2.2.2.2.2.2.2.2.2.2.2.2.2.2.2.2.2.2.2.2.2.2.2.2.2.2.2.2.2.2.2.2.2.2) H0 := by rw [er]; exact hP
    have hD9 : va_D A ((ao, zoc tt (zout Int32.toInt64 vo RR.1)) :: wL tt a b d wd fa od hd qc qs bc bs tl rl H (RR.2.1, RR.2.2.1, RR.2.2.2.1, RR.2.2.2.2.1, RR.2.2.2.2.2.1, RR.2.2.2.2.2.2.1, RR.2.2.2.2.2.2.2.1, RR.2.2.2.2.2.2.2.2.1, RR.2.2.2.2.2.2.2.2.2.1, RR.2.2.2.2.2.2.2.2.2.2.1, RR.2.2.2.2.2.2.2.2.2.2.2.1, RR.2.2.2.2.2.2.2.2.2.2.2.2.1, RR.2.2.2.2.2.2.2.2.2.2.2.2.2.1) RR.2.2.2.2.2.2.2.2.2.2.2.2.2.2.1 RR.2.2.2.2.2.2.2.2.2.2.2.2.2.2.2.1 tr RR.2.2.2.2.2.2.2.2.2.2.2.2.2.2.2.2.1 RR.2.2.2.2.2.2.2.2.2.2.2.2.2.2.2.2.2.1 RR.2.2.2.2.2.2.2.2.2.2.2.2.2.2.2.2.2.2.1 RR.2.2.2.2.2.2.2.2.2.2.2.2.2.2.2.2.2.2.2.1 RR.2.2.2.2.2.2.2.2.2.2.2.2.2.2.2.2.2.2.2.2.1 (RR.2.2.2.2.2.2.2.2.2.2.2.2.2.2.2.2.2.2.2.2.2.1, RR.2.2.2.2.2.2.2.2.2.2.2.2.2.2.2.2.2.2.2.2.2.2.1, RR.2.2.2.2.2.2.2.2.2.2.2.2.2.2.2.2.2.2.2.2.2.2.2.1, RR.2.2.2.2.2.2.2.2.2.2.2.2.2.2.2.2.2.2.2.2.2.2.2.2.1, RR.2.2.2.2.2.2.2.2.2.2.2.2.2.2.2.2.2.2.2.2.2.2.2.2.2.1, RR.2.2.2.2.2.2.2.2.2.2.2.2.2.2.2.2.2.2.2.2.2.2.2.2.2.2.1, RR.2.2.2.2.2.2.2.2.2.2.2.2.2.2.2.2.2.2.2.2.2.2.2.2.2.2.2.1, RR.2.2.2.2.2.2.2.2.2.2.2.2.2.2.2.2.2.2.2.2.2.2.2.2.2.2.2.2.1, RR.2.2.2.2.2.2.2.2.2.2.2.2.2.2.2.2.2.2.2.2.2.2.2.2.2.2.2.2.2.1, RR.2.2.2.2.2.2.2.2.2.2.2.2.2.2.2.2.2.2.2.2.2.2.2.2.2.2.2.2.2.2.1, RR.2.2.2.2.2.2.2.2.2.2.2.2.2.2.2.2.2.2.2.2.2.2.2.2.2.2.2.2.2.2.2.1, RR.2.2.2.2.2.2.2.2.2.2.2.2.2.2.2.2.2.2.2.2.2.2.2.2.2.2.2.2.2.2.2.2.1, RR.2.2.2.2.2.2.2.2.2.2.2.2.2.2.2.2.2.2.2.2.2.2.2.2.2.2.2.2.2.2.2.2.2.1, RR.2.2.2.2.2.2.2.2.2.2.2.2.2.2.2.2.2.2.2.2.2.2.2.2.2.2.2.2.2.2.2.2.2.2.1, RR.2.2.2.2.2.2.2.2.2.2.2.2.2.2.2.2.2.2.2.2.2.2.2.2.2.2.2.2.2.2.2.2.2.2.2.1) RR.2.2.2.2.2.2.2.2.2.2.2.2.2.2.2.2.2.2.2.2.2.2.2.2.2.2.2.2.2.2.2.2.2.2.2.2.1 cz lh lp se RR.2.2.2.2.2.2.2.2.2.2.2.2.2.2.2.2.2.2.2.2.2.2.2.2.2.2.2.2.2.2.2.2.2.2.2.2.2.1 RR.2.2.2.2.2.2.2.2.2.2.2.2.2.2.2.2.2.2.2.2.2.2.2.2.2.2.2.2.2.2.2.2.2.2.2.2.2.2) := by rw [er]; exact hD
    refine lv_goto (tgt := 17) hx hb dL_idleRows_10 (by decide) ?_
    refine lv_iconst (v := (0 : Int32)) hx hb dL_idleRows_17 (by decide) ?_
    exact W.iret (v := (0 : Int32)) hx hb hr (fun t ht hW => ⟨⟨(0 : Int32), RR.2, rfl, ⟨rfl, rfl⟩, by rw [ht]; exact hP9, va_K.moved hW.alike hK, hD9⟩, hS.F ht⟩) hS.2.2 dL_idleRows_18

set_option maxHeartbeats 4000000 in
set_option maxRecDepth 100000 in
theorem mL_isTree (l : Launch) (G : va_G) (tt : Nat → ClassId) (sa : Nat → Nat) (hlt : l.stackTraces = false) (sz : Nat) (K : Nat) (a : Nat → Nat) (b : Nat → Nat → Nat) (d : Nat → Nat → Nat → Nat) (wd : Nat → Int32) (fa : Nat → Int64) (od hd : Nat → Int32) (qc : Nat → Nat → Int32) (qs : Nat → Int32) (bc : Nat → Nat → Int32) (bs : Nat → Int32) (tl rl : Int32) (H : zH12) (q : zR13) (w fr : Nat → Int64) (tr g re fi : Nat → Int32) (ro im : Int32) (r : zR15) (pk : Int32) (cz : Nat → Int32) (lh : Int32) (lp : Int64) (se : Nat → Int32) (md : Nat → Int64) (ff : Int32) (p1 : Int32) (ao : Nat) (vo : Nat → Int64) (RR : (Nat ⊕ Bool) × (Nat → Int32)) (hF : fX11_isTree K qc qs p1 se = some RR) (bb : Bool × Int32) (hA : zAg [0] false RR.1 bb) : Met l yL_isTree wsL_isTree ({ frames := 8, cells := 1, slots := 6, locals := 132 } : Room) (zPreL G (zTy tt) sa [.ref (a 0), .int p1, .ref ao] sz ((ao, zoc tt vo) :: wL tt a b d wd fa od hd qc qs bc bs tl rl H q w fr tr g re fi ro im r pk cz lh lp se md ff)) (va_Qi (fun (r : Int32) (u : (Nat → Int32)) => r = bb.2 ∧ u = RR.2) (zAt G (zTy tt) (va_A ((ao, zoc tt vo) :: wL tt a b d wd fa od hd qc qs bc bs tl rl H q w fr tr g re fi ro im r pk cz lh lp se md ff) sz) (fun u : (Nat → Int32) => (ao, zoc tt (zout zbL vo RR.1)) :: wL tt a b d wd fa od hd qc qs bc bs tl rl H q w fr tr g re fi ro im r pk cz lh lp u md ff)) (va_A ((ao, zoc tt vo) :: wL tt a b d wd fa od hd qc qs bc bs tl rl H q w fr tr g re fi ro im r pk cz lh lp se md ff) sz)) 1 6 (va_A ((ao, zoc tt vo) :: wL tt a b d wd fa od hd qc qs bc bs tl rl H q w fr tr g re fi ro im r pk cz lh lp se md ff) sz) := by
  refine va_MetW (cc := cL_isTree) (maxL := 4) (ret := (some .int)) (hh := [(0, 16, 19, 21)]) (by decide +kernel) rfl ?_
  intro p e s m args below meth c s₁ B hml hv
  obtain ⟨⟨rfl, hsz, hP, hK, hD0, hN, hX⟩, hL⟩ := hv
  have hx := B.exec
  have hb := B.bytes
  have hr := B.returns
  have hts := atoms_spec (ws := wsL_isTree) B.pre
  have hown : s.vm.findClass RL = some m.cls := findClass_of_methodNamed B.named
  have hlocks := B.notSynchronized
  have htab : c.exceptionTable.toList = tableOf [(0, 16, 19, 21)] := vx_table (x := yL_isTree) B (hts _ List.mem_cons_self)
  subst hsz
  have hD := hD0.self (sz := s.heap.size)
  generalize hAe : va_A ((ao, zoc tt vo) :: wL tt a b d wd fa od hd qc qs bc bs tl rl H q w fr tr g re fi ro im r pk cz lh lp se md ff) s.heap.size = A at hD hX ⊢
  have hA9 : ∀ q : Nat, s.heap.size ≤ q → A q := fun q h => by rw [← hAe]; exact Or.inr h
  have hl := lv_entry ([.ref (a 0), .int p1, .ref ao]) (n := 4) (Nat.le_of_ble_eq_true rfl)
  rw [lg_entry_eq]
  generalize (lg_sl ([.ref (a 0), .int p1, .ref ao]) ++ List.replicate (4 - (lg_sl ([.ref (a 0), .int p1, .ref ao])).length) Slot.unset).toArray = ls at hl ⊢
  have hl : lv_has ls 4 [(0, .ref (a 0)), (1, .int p1), (2, .ref ao)] := hl
  obtain ⟨H0, hHe⟩ : ∃ H : Heap, s.heap = H := ⟨_, rfl⟩
  have hS : va_S A s.heap H0 [] := by rw [← hHe]; exact va_S.rf
  rw [hHe] at hP ⊢
  have hP := zP_perm (List.perm_append_comm (l₁ := [(ao, zoc tt vo)]) (l₂ := wL tt a b d wd fa od hd qc qs bc bs tl rl H q w fr tr g re fi ro im r pk cz lh lp se md ff)) hP
  have hD := zD_perm (List.perm_append_comm (l₁ := [(ao, zoc tt vo)]) (l₂ := wL tt a b d wd fa od hd qc qs bc bs tl rl H q w fr tr g re fi ro im r pk cz lh lp se md ff)) hD
  refine lv_aload_n hx hb dL_isTree_0 rfl (lv_at hl 2 rfl) ?_
  refine lv_iconst (v := (0 : Int32)) hx hb dL_isTree_1 (by decide) ?_
  refine lv_aload_n hx hb dL_isTree_2 rfl (lv_at hl 0 rfl) ?_
  refine lv_iload_n hx hb dL_isTree_3 rfl (lv_at hl 1 rfl) ?_
  refine z_callXi (wc := wL tt a b d wd fa od hd qc qs bc bs tl rl H q w fr tr g re fi ro im r pk cz lh lp se md ff) (wr := [(ao, zoc tt vo)]) (As := [.int p1]) (rest := [.int (0 : Int32), .ref ao]) (ci := 10) ⟨hx, hb, hml, hown, hts⟩ hK hN hX hP hD hS hA9 (nX11_isTree l G tt sa hlt H0.size K a b d wd fa od hd qc qs bc bs tl rl H q w fr tr g re fi ro im r pk cz lh lp se md ff p1 RR hF) (cwV 1 hts gL_isTree_X11_isTree rfl rfl rfl (by decide +kernel) ⟨Nat.le_of_ble_eq_true rfl, Nat.le_of_ble_eq_true rfl⟩) rfl rfl rfl hl.1 rfl (Nat.le_of_ble_eq_true rfl) dL_isTree_4 ⟨Nat.le_of_ble_eq_true rfl, Nat.le_of_ble_eq_true rfl⟩ (fun k ce q9 H0 locs hk hP hD hS hce hcv hcl => ?_) (fun rr u H0 locs hw hP hD hS => ?_)
  · rcases hA with ⟨k9, hk9, ek, rfl⟩ | ⟨v9, ev, rfl⟩
    · obtain rfl : k9 = k := Sum.inl.inj (ek.symm.trans hk)
      have hk9 : k9 = 0 := by simpa using hk9
      subst hk9
      have hz : zout zbL vo RR.1 = vo := by rw [hk]; rfl
      refine vx_catch (name := zEx 0) hown [] ⟨0, 16, 19, 21⟩ [] (htab.trans rfl) (fun z hz => by
          exact absurd hz List.not_mem_nil) (by decide) (by decide) (hts (.classLink RL 21 (zEx 0)) (List.mem_of_getElem? (i := 1) rfl)) (zX_cast hX 0 (by decide)) hce hcv hcl ?_
      refine lv_astore_n (lv' := [(3, .ref q9), (0, .ref (a 0)), (1, .int p1), (2, .ref ao)]) hx hb dL_isTree_19 rfl hl (by decide) rfl (fun ls hl => ?_)
      refine lv_iconst (v := (1 : Int32)) hx hb dL_isTree_20 (by decide) ?_
      exact W.iret (v := (1 : Int32)) hx hb hr (fun t ht hW => ⟨⟨(1 : Int32), RR.2, rfl, ⟨rfl, rfl⟩, by rw [ht, hz]; exact hP, va_K.moved hW.alike hK, by rw [hz]; exact hD⟩, hS.F ht⟩) hS.2.2 dL_isTree_21
    · cases hk.symm.trans ev
  · obtain ⟨⟨bq, er, rfl⟩, hu⟩ := hw
    subst hu
    rcases hA with ⟨k9, hk9, ek, rfl⟩ | ⟨v9, ev, rfl⟩
    · cases er.symm.trans ek
    obtain rfl : v9 = bq := Sum.inr.inj (ev.symm.trans er)
    cases v9
    · refine lv_if_eq (tgt := 14) hx hb dL_isTree_7 (by decide) (fun _ => ?_) (fun h9 => absurd rfl h9)
      refine lv_lconst (v := (0 : Int64)) hx hb dL_isTree_14 (by decide) ?_
      refine va_last hx hb hK hP hD hS 0 1 rfl rfl (inB_vp (by decide)) dL_isTree_15 (fun H0 locs hP hD hS => ?_)
      have hP9 : va_P G vwCl ((ao, zoc tt (zout zbL vo RR.1)) :: wL tt a b d wd fa od hd qc qs bc bs tl rl H q w fr tr g re fi ro im r pk cz lh lp RR.2 md ff) H0 := by rw [er]; exact hP
      have hD9 : va_D A ((ao, zoc tt (zout zbL vo RR.1)) :: wL tt a b d wd fa od hd qc qs bc bs tl rl H q w fr tr g re fi ro im r pk cz lh lp RR.2 md ff) := by rw [er]; exact hD
      refine lv_goto (tgt := 22) hx hb dL_isTree_16 (by decide) ?_
      refine lv_iconst (v := (0 : Int32)) hx hb dL_isTree_22 (by decide) ?_
      exact W.iret (v := (0 : Int32)) hx hb hr (fun t ht hW => ⟨⟨(0 : Int32), RR.2, rfl, ⟨rfl, rfl⟩, by rw [ht]; exact hP9, va_K.moved hW.alike hK, hD9⟩, hS.F ht⟩) hS.2.2 dL_isTree_23
    · refine lv_if_eq (tgt := 14) hx hb dL_isTree_7 (by decide) (fun h9 => absurd h9 (by decide)) (fun _ => ?_)
      refine lv_lconst (v := (1 : Int64)) hx hb dL_isTree_10 (by decide) ?_
      refine lv_goto (tgt := 15) hx hb dL_isTree_11 (by decide) ?_
      refine va_last hx hb hK hP hD hS 0 1 rfl rfl (inB_vp (by decide)) dL_isTree_15 (fun H0 locs hP hD hS => ?_)
      have hP9 : va_P G vwCl ((ao, zoc tt (zout zbL vo RR.1)) :: wL tt a b d wd fa od hd qc qs bc bs tl rl H q w fr tr g re fi ro im r pk cz lh lp RR.2 md ff) H0 := by rw [er]; exact hP
      have hD9 : va_D A ((ao, zoc tt (zout zbL vo RR.1)) :: wL tt a b d wd fa od hd qc qs bc bs tl rl H q w fr tr g re fi ro im r pk cz lh lp RR.2 md ff) := by rw [er]; exact hD
      refine lv_goto (tgt := 22) hx hb dL_isTree_16 (by decide) ?_
      refine lv_iconst (v := (0 : Int32)) hx hb dL_isTree_22 (by decide) ?_
      exact W.iret (v := (0 : Int32)) hx hb hr (fun t ht hW => ⟨⟨(0 : Int32), RR.2, rfl, ⟨rfl, rfl⟩, by rw [ht]; exact hP9, va_K.moved hW.alike hK, hD9⟩, hS.F ht⟩) hS.2.2 dL_isTree_23

set_option maxHeartbeats 4000000 in
set_option maxRecDepth 100000 in
theorem mL_cover (l : Launch) (G : va_G) (tt : Nat → ClassId) (sa : Nat → Nat) (hlt : l.stackTraces = false) (sz : Nat) (K : Nat) (a : Nat → Nat) (b : Nat → Nat → Nat) (d : Nat → Nat → Nat → Nat) (wd : Nat → Int32) (fa : Nat → Int64) (od hd : Nat → Int32) (qc : Nat → Nat → Int32) (qs : Nat → Int32) (bc : Nat → Nat → Int32) (bs : Nat → Int32) (tl rl : Int32) (H : zH12) (q : zR13) (w fr : Nat → Int64) (tr g re fi : Nat → Int32) (ro im : Int32) (r : zR15) (pk : Int32) (cz : Nat → Int32) (lh : Int32) (lp : Int64) (se : Nat → Int32) (md : Nat → Int64) (ff : Int32) (p1 : Int32) (ao : Nat) (vo : Nat → Int64) (RR : (Nat ⊕ Int32) × (Nat → Int32) × Int32 × (Nat → Int32) × (Nat → Int32) × (Nat → Int32) × (Nat → Int32) × (Nat → Int32) × (Nat → Int32) × Int32 × Int32 × Int32 × Int32 × Int32 × (Nat → Int64) × (Nat → Int64) × (Nat → Int32) × (Nat → Int32) × (Nat → Int32) × Int32 × Int32 × (Nat → Int32) × Int32 × Int64) (hF : fX11_cover K fa hd qc qs bc bs rl p1 q.1 q.2.1 q.2.2.1 q.2.2.2.1 q.2.2.2.2.1 q.2.2.2.2.2.1 q.2.2.2.2.2.2.1 q.2.2.2.2.2.2.2.1 q.2.2.2.2.2.2.2.2.1 q.2.2.2.2.2.2.2.2.2.1 q.2.2.2.2.2.2.2.2.2.2.1 q.2.2.2.2.2.2.2.2.2.2.2.1 q.2.2.2.2.2.2.2.2.2.2.2.2 w fr g re fi ro im cz lh lp = some RR) (bb : Int32 × Int32) (hA : zAg [0] 0 RR.1 bb) : Met l yL_cover wsL_cover ({ frames := 8, cells := 1, slots := 6, locals := 185 } : Room) (zPreL G (zTy tt) sa [.ref (a 0), .int p1, .ref ao] sz ((ao, zoc tt vo) :: wL tt a b d wd fa od hd qc qs bc bs tl rl H q w fr tr g re fi ro im r pk cz lh lp se md ff)) (va_Qi (fun (r : Int32) (u : (Nat → Int32) × Int32 × (Nat → Int32) × (Nat → Int32) × (Nat → Int32) × (Nat → Int32) × (Nat → Int32) × (Nat → Int32) × Int32 × Int32 × Int32 × Int32 × Int32 × (Nat → Int64) × (Nat → Int64) × (Nat → Int32) × (Nat → Int32) × (Nat → Int32) × Int32 × Int32 × (Nat → Int32) × Int32 × Int64) => r = bb.2 ∧ u = RR.2) (zAt G (zTy tt) (va_A ((ao, zoc tt vo) :: wL tt a b d wd fa od hd qc qs bc bs tl rl H q w fr tr g re fi ro im r pk cz lh lp se md ff) sz) (fun u : (Nat → Int32) × Int32 × (Nat → Int32) × (Nat → Int32) × (Nat → Int32) × (Nat → Int32) × (Nat → Int32) × (Nat → Int32) × Int32 × Int32 × Int32 × Int32 × Int32 × (Nat → Int64) × (Nat → Int64) × (Nat → Int32) × (Nat → Int32) × (Nat → Int32) × Int32 × Int32 × (Nat → Int32) × Int32 × Int64 => (ao, zoc tt (zout Int32.toInt64 vo RR.1)) :: wL tt a b d wd fa od hd qc qs bc bs tl rl H (u.1, u.2.1, u.2.2.1, u.2.2.2.1, u.2.2.2.2.1, u.2.2.2.2.2.1, u.2.2.2.2.2.2.1, u.2.2.2.2.2.2.2.1, u.2.2.2.2.2.2.2.2.1, u.2.2.2.2.2.2.2.2.2.1, u.2.2.2.2.2.2.2.2.2.2.1, u.2.2.2.2.2.2.2.2.2.2.2.1, u.2.2.2.2.2.2.2.2.2.2.2.2.1) u.2.2.2.2.2.2.2.2.2.2.2.2.2.1 u.2.2.2.2.2.2.2.2.2.2.2.2.2.2.1 tr u.2.2.2.2.2.2.2.2.2.2.2.2.2.2.2.1 u.2.2.2.2.2.2.2.2.2.2.2.2.2.2.2.2.1 u.2.2.2.2.2.2.2.2.2.2.2.2.2.2.2.2.2.1 u.2.2.2.2.2.2.2.2.2.2.2.2.2.2.2.2.2.2.1 u.2.2.2.2.2.2.2.2.2.2.2.2.2.2.2.2.2.2.2.1 r pk u.2.2.2.2.2.2.2.2.2.2.2.2.2.2.2.2.2.2.2.2.1 u.2.2.2.2.2.2.2.2.2.2.2.2.2.2.2.2.2.2.2.2.2.1 u.2.2.2.2.2.2.2.2.2.2.2.2.2.2.2.2.2.2.2.2.2.2 se md ff)) (va_A ((ao, zoc tt vo) :: wL tt a b d wd fa od hd qc qs bc bs tl rl H q w fr tr g re fi ro im r pk cz lh lp se md ff) sz)) 1 6 (va_A ((ao, zoc tt vo) :: wL tt a b d wd fa od hd qc qs bc bs tl rl H q w fr tr g re fi ro im r pk cz lh lp se md ff) sz) := by
  refine va_MetW (cc := cL_cover) (maxL := 4) (ret := (some .int)) (hh := [(0, 9, 12, 21)]) (by decide +kernel) rfl ?_
  intro p e s m args below meth c s₁ B hml hv
  obtain ⟨⟨rfl, hsz, hP, hK, hD0, hN, hX⟩, hL⟩ := hv
  have hx := B.exec
  have hb := B.bytes
  have hr := B.returns
  have hts := atoms_spec (ws := wsL_cover) B.pre
  have hown : s.vm.findClass RL = some m.cls := findClass_of_methodNamed B.named
  have hlocks := B.notSynchronized
  have htab : c.exceptionTable.toList = tableOf [(0, 9, 12, 21)] := vx_table (x := yL_cover) B (hts _ List.mem_cons_self)
  subst hsz
  have hD := hD0.self (sz := s.heap.size)
  generalize hAe : va_A ((ao, zoc tt vo) :: wL tt a b d wd fa od hd qc qs bc bs tl rl H q w fr tr g re fi ro im r pk cz lh lp se md ff) s.heap.size = A at hD hX ⊢
  have hA9 : ∀ q : Nat, s.heap.size ≤ q → A q := fun q h => by rw [← hAe]; exact Or.inr h
  have hl := lv_entry ([.ref (a 0), .int p1, .ref ao]) (n := 4) (Nat.le_of_ble_eq_true rfl)
  rw [lg_entry_eq]
  generalize (lg_sl ([.ref (a 0), .int p1, .ref ao]) ++ List.replicate (4 - (lg_sl ([.ref (a 0), .int p1, .ref ao])).length) Slot.unset).toArray = ls at hl ⊢
  have hl : lv_has ls 4 [(0, .ref (a 0)), (1, .int p1), (2, .ref ao)] := hl
  obtain ⟨H0, hHe⟩ : ∃ H : Heap, s.heap = H := ⟨_, rfl⟩
  have hS : va_S A s.heap H0 [] := by rw [← hHe]; exact va_S.rf
  rw [hHe] at hP ⊢
  have hP := zP_perm (List.perm_append_comm (l₁ := [(ao, zoc tt vo)]) (l₂ := wL tt a b d wd fa od hd qc qs bc bs tl rl H q w fr tr g re fi ro im r pk cz lh lp se md ff)) hP
  have hD := zD_perm (List.perm_append_comm (l₁ := [(ao, zoc tt vo)]) (l₂ := wL tt a b d wd fa od hd qc qs bc bs tl rl H q w fr tr g re fi ro im r pk cz lh lp se md ff)) hD
  refine lv_aload_n hx hb dL_cover_0 rfl (lv_at hl 2 rfl) ?_
  refine lv_iconst (v := (0 : Int32)) hx hb dL_cover_1 (by decide) ?_
  refine lv_aload_n hx hb dL_cover_2 rfl (lv_at hl 0 rfl) ?_
  refine lv_iload_n hx hb dL_cover_3 rfl (lv_at hl 1 rfl) ?_
  refine z_callXi (wc := wL tt a b d wd fa od hd qc qs bc bs tl rl H q w fr tr g re fi ro im r pk cz lh lp se md ff) (wr := [(ao, zoc tt vo)]) (As := [.int p1]) (rest := [.int (0 : Int32), .ref ao]) (ci := 10) ⟨hx, hb, hml, hown, hts⟩ hK hN hX hP hD hS hA9 (nX11_cover l G tt sa hlt H0.size K a b d wd fa od hd qc qs bc bs tl rl H q w fr tr g re fi ro im r pk cz lh lp se md ff p1 RR hF) (cwV 1 hts gL_cover_X11_cover rfl rfl rfl (by decide +kernel) ⟨Nat.le_of_ble_eq_true rfl, Nat.le_of_ble_eq_true rfl⟩) rfl rfl rfl hl.1 rfl (Nat.le_of_ble_eq_true rfl) dL_cover_4 ⟨Nat.le_of_ble_eq_true rfl, Nat.le_of_ble_eq_true rfl⟩ (fun k ce q9 H0 locs hk hP hD hS hce hcv hcl => ?_) (fun rr u H0 locs hw hP hD hS => ?_)
  · rcases hA with ⟨k9, hk9, ek, rfl⟩ | ⟨v9, ev, rfl⟩
    · obtain rfl : k9 = k := Sum.inl.inj (ek.symm.trans hk)
      have hk9 : k9 = 0 := by simpa using hk9
      subst hk9
      have hz : zout Int32.toInt64 vo RR.1 = vo := by rw [hk]; rfl
      refine vx_catch (name := zEx 0) hown [] ⟨0, 9, 12, 21⟩ [] (htab.trans rfl) (fun z hz => by
          exact absurd hz List.not_mem_nil) (by decide) (by decide) (hts (.classLink RL 21 (zEx 0)) (List.mem_of_getElem? (i := 1) rfl)) (zX_cast hX 0 (by decide)) hce hcv hcl ?_
      refine lv_astore_n (lv' := [(3, .ref q9), (0, .ref (a 0)), (1, .int p1), (2, .ref ao)]) hx hb dL_cover_12 rfl hl (by decide) rfl (fun ls hl => ?_)
      refine lv_iconst (v := (1 : Int32)) hx hb dL_cover_13 (by decide) ?_
      exact W.iret (v := (1 : Int32)) hx hb hr (fun t ht hW => ⟨⟨(1 : Int32), RR.2, rfl, ⟨rfl, rfl⟩, by rw [ht, hz]; exact hP, va_K.moved hW.alike hK, by rw [hz]; exact hD⟩, hS.F ht⟩) hS.2.2 dL_cover_14
    · cases hk.symm.trans ev
  · obtain ⟨er, hu⟩ := hw
    subst hu
    rcases hA with ⟨k9, hk9, ek, rfl⟩ | ⟨v9, ev, rfl⟩
    · cases er.symm.trans ek
    obtain rfl : v9 = rr := Sum.inr.inj (ev.symm.trans er)
    refine lv_i2l hx hb dL_cover_7 rfl ?_
    refine va_last hx hb hK hP hD hS 0 1 rfl rfl (inB_vp (by decide)) dL_cover_8 (fun H0 locs hP hD hS => ?_)
    have hP9 : va_P G vwCl ((ao, zoc tt (zout Int32.toInt64 vo RR.1)) :: wL tt a b d wd fa od hd qc qs bc bs tl rl H (RR.2.1, RR.2.2.1, RR.2.2.2.1, RR.2.2.2.2.1, RR.2.2.2.2.2.1, RR.2.2.2.2.2.2.1, RR.2.2.2.2.2.2.2.1, RR.2.2.2.2.2.2.2.2.1, RR.2.2.2.2.2.2.2.2.2.1, RR.2.2.2.2.2.2.2.2.2.2.1, RR.2.2.2.2.2.2.2.2.2.2.2.1, RR.2.2.2.2.2.2.2.2.2.2.2.2.1, RR.2.2.2.2.2.2.2.2.2.2.2.2.2.1) RR.2.2.2.2.2.2.2.2.2.2.2.2.2.2.1 RR.2.2.2.2.2.2.2.2.2.2.2.2.2.2.2.1 tr RR.2.2.2.2.2.2.2.2.2.2.2.2.2.2.2.2.1 RR.2.2.2.2.2.2.2.2.2.2.2.2.2.2.2.2.2.1 RR.2.2.2.2.2.2.2.2.2.2.2.2.2.2.2.2.2.2.1 RR.2.2.2.2.2.2.2.2.2.2.2.2.2.2.2.2.2.2.2.1 RR.2.2.2.2.2.2.2.2.2.2.2.2.2.2.2.2.2.2.2.2.1 r pk RR.2.2.2.2.2.2.2.2.2.2.2.2.2.2.2.2.2.2.2.2.2.1 RR.2.2.2.2.2.2.2.2.2.2.2.2.2.2.2.2.2.2.2.2.2.2.1 RR.2.2.2.2.2.2.2.2.2.2.2.2.2.2.2.2.2.2.2.2.2.2.2 se md ff) H0 := by rw [er]; exact hP
    have hD9 : va_D A ((ao, zoc tt (zout Int32.toInt64 vo RR.1)) :: wL tt a b d wd fa od hd qc qs bc bs tl rl H (RR.2.1, RR.2.2.1, RR.2.2.2.1, RR.2.2.2.2.1, RR.2.2.2.2.2.1, RR.2.2.2.2.2.2.1, RR.2.2.2.2.2.2.2.1, RR.2.2.2.2.2.2.2.2.1, RR.2.2.2.2.2.2.2.2.2.1, RR.2.2.2.2.2.2.2.2.2.2.1, RR.2.2.2.2.2.2.2.2.2.2.2.1, RR.2.2.2.2.2.2.2.2.2.2.2.2.1, RR.2.2.2.2.2.2.2.2.2.2.2.2.2.1) RR.2.2.2.2.2.2.2.2.2.2.2.2.2.2.1 RR.2.2.2.2.2.2.2.2.2.2.2.2.2.2.2.1 tr RR.2.2.2.2.2.2.2.2.2.2.2.2.2.2.2.2.1 RR.2.2.2.2.2.2.2.2.2.2.2.2.2.2.2.2.2.1 RR.2.2.2.2.2.2.2.2.2.2.2.2.2.2.2.2.2.2.1 RR.2.2.2.2.2.2.2.2.2.2.2.2.2.2.2.2.2.2.2.1 RR.2.2.2.2.2.2.2.2.2.2.2.2.2.2.2.2.2.2.2.2.1 r pk RR.2.2.2.2.2.2.2.2.2.2.2.2.2.2.2.2.2.2.2.2.2.1 RR.2.2.2.2.2.2.2.2.2.2.2.2.2.2.2.2.2.2.2.2.2.2.1 RR.2.2.2.2.2.2.2.2.2.2.2.2.2.2.2.2.2.2.2.2.2.2.2 se md ff) := by rw [er]; exact hD
    refine lv_goto (tgt := 15) hx hb dL_cover_9 (by decide) ?_
    refine lv_iconst (v := (0 : Int32)) hx hb dL_cover_15 (by decide) ?_
    exact W.iret (v := (0 : Int32)) hx hb hr (fun t ht hW => ⟨⟨(0 : Int32), RR.2, rfl, ⟨rfl, rfl⟩, by rw [ht]; exact hP9, va_K.moved hW.alike hK, hD9⟩, hS.F ht⟩) hS.2.2 dL_cover_16

set_option maxHeartbeats 4000000 in
set_option maxRecDepth 100000 in
theorem mL_bound (l : Launch) (G : va_G) (tt : Nat → ClassId) (sa : Nat → Nat) (hlt : l.stackTraces = false) (sz : Nat) (K : Nat) (a : Nat → Nat) (b : Nat → Nat → Nat) (d : Nat → Nat → Nat → Nat) (wd : Nat → Int32) (fa : Nat → Int64) (od hd : Nat → Int32) (qc : Nat → Nat → Int32) (qs : Nat → Int32) (bc : Nat → Nat → Int32) (bs : Nat → Int32) (tl rl : Int32) (H : zH12) (q : zR13) (w fr : Nat → Int64) (tr g re fi : Nat → Int32) (ro im : Int32) (r : zR15) (pk : Int32) (cz : Nat → Int32) (lh : Int32) (lp : Int64) (se : Nat → Int32) (md : Nat → Int64) (ff : Int32) (p1 : Int32) (ao : Nat) (vo : Nat → Int64) (RR : (Nat ⊕ Int64) × (Nat → Int32) × Int32 × (Nat → Int32) × (Nat → Int32) × (Nat → Int32) × (Nat → Int32) × (Nat → Int32) × (Nat → Int32) × Int32 × Int32 × Int32 × Int32 × Int32 × (Nat → Int64) × (Nat → Int64) × (Nat → Int32) × (Nat → Int32) × (Nat → Int32) × Int32 × Int32 × (Nat → Int32) × Int32 × Int64) (hF : fX11_bound K fa hd qc qs bc bs rl p1 q.1 q.2.1 q.2.2.1 q.2.2.2.1 q.2.2.2.2.1 q.2.2.2.2.2.1 q.2.2.2.2.2.2.1 q.2.2.2.2.2.2.2.1 q.2.2.2.2.2.2.2.2.1 q.2.2.2.2.2.2.2.2.2.1 q.2.2.2.2.2.2.2.2.2.2.1 q.2.2.2.2.2.2.2.2.2.2.2.1 q.2.2.2.2.2.2.2.2.2.2.2.2 w fr g re fi ro im cz lh lp = some RR) (bb : Int64 × Int32) (hA : zAg [0] 0 RR.1 bb) : Met l yL_bound wsL_bound ({ frames := 8, cells := 1, slots := 6, locals := 185 } : Room) (zPreL G (zTy tt) sa [.ref (a 0), .int p1, .ref ao] sz ((ao, zoc tt vo) :: wL tt a b d wd fa od hd qc qs bc bs tl rl H q w fr tr g re fi ro im r pk cz lh lp se md ff)) (va_Qi (fun (r : Int32) (u : (Nat → Int32) × Int32 × (Nat → Int32) × (Nat → Int32) × (Nat → Int32) × (Nat → Int32) × (Nat → Int32) × (Nat → Int32) × Int32 × Int32 × Int32 × Int32 × Int32 × (Nat → Int64) × (Nat → Int64) × (Nat → Int32) × (Nat → Int32) × (Nat → Int32) × Int32 × Int32 × (Nat → Int32) × Int32 × Int64) => r = bb.2 ∧ u = RR.2) (zAt G (zTy tt) (va_A ((ao, zoc tt vo) :: wL tt a b d wd fa od hd qc qs bc bs tl rl H q w fr tr g re fi ro im r pk cz lh lp se md ff) sz) (fun u : (Nat → Int32) × Int32 × (Nat → Int32) × (Nat → Int32) × (Nat → Int32) × (Nat → Int32) × (Nat → Int32) × (Nat → Int32) × Int32 × Int32 × Int32 × Int32 × Int32 × (Nat → Int64) × (Nat → Int64) × (Nat → Int32) × (Nat → Int32) × (Nat → Int32) × Int32 × Int32 × (Nat → Int32) × Int32 × Int64 => (ao, zoc tt (zout id vo RR.1)) :: wL tt a b d wd fa od hd qc qs bc bs tl rl H (u.1, u.2.1, u.2.2.1, u.2.2.2.1, u.2.2.2.2.1, u.2.2.2.2.2.1, u.2.2.2.2.2.2.1, u.2.2.2.2.2.2.2.1, u.2.2.2.2.2.2.2.2.1, u.2.2.2.2.2.2.2.2.2.1, u.2.2.2.2.2.2.2.2.2.2.1, u.2.2.2.2.2.2.2.2.2.2.2.1, u.2.2.2.2.2.2.2.2.2.2.2.2.1) u.2.2.2.2.2.2.2.2.2.2.2.2.2.1 u.2.2.2.2.2.2.2.2.2.2.2.2.2.2.1 tr u.2.2.2.2.2.2.2.2.2.2.2.2.2.2.2.1 u.2.2.2.2.2.2.2.2.2.2.2.2.2.2.2.2.1 u.2.2.2.2.2.2.2.2.2.2.2.2.2.2.2.2.2.1 u.2.2.2.2.2.2.2.2.2.2.2.2.2.2.2.2.2.2.1 u.2.2.2.2.2.2.2.2.2.2.2.2.2.2.2.2.2.2.2.1 r pk u.2.2.2.2.2.2.2.2.2.2.2.2.2.2.2.2.2.2.2.2.1 u.2.2.2.2.2.2.2.2.2.2.2.2.2.2.2.2.2.2.2.2.2.1 u.2.2.2.2.2.2.2.2.2.2.2.2.2.2.2.2.2.2.2.2.2.2 se md ff)) (va_A ((ao, zoc tt vo) :: wL tt a b d wd fa od hd qc qs bc bs tl rl H q w fr tr g re fi ro im r pk cz lh lp se md ff) sz)) 1 6 (va_A ((ao, zoc tt vo) :: wL tt a b d wd fa od hd qc qs bc bs tl rl H q w fr tr g re fi ro im r pk cz lh lp se md ff) sz) := by
  refine va_MetW (cc := cL_bound) (maxL := 4) (ret := (some .int)) (hh := [(0, 8, 11, 21)]) (by decide +kernel) rfl ?_
  intro p e s m args below meth c s₁ B hml hv
  obtain ⟨⟨rfl, hsz, hP, hK, hD0, hN, hX⟩, hL⟩ := hv
  have hx := B.exec
  have hb := B.bytes
  have hr := B.returns
  have hts := atoms_spec (ws := wsL_bound) B.pre
  have hown : s.vm.findClass RL = some m.cls := findClass_of_methodNamed B.named
  have hlocks := B.notSynchronized
  have htab : c.exceptionTable.toList = tableOf [(0, 8, 11, 21)] := vx_table (x := yL_bound) B (hts _ List.mem_cons_self)
  subst hsz
  have hD := hD0.self (sz := s.heap.size)
  generalize hAe : va_A ((ao, zoc tt vo) :: wL tt a b d wd fa od hd qc qs bc bs tl rl H q w fr tr g re fi ro im r pk cz lh lp se md ff) s.heap.size = A at hD hX ⊢
  have hA9 : ∀ q : Nat, s.heap.size ≤ q → A q := fun q h => by rw [← hAe]; exact Or.inr h
  have hl := lv_entry ([.ref (a 0), .int p1, .ref ao]) (n := 4) (Nat.le_of_ble_eq_true rfl)
  rw [lg_entry_eq]
  generalize (lg_sl ([.ref (a 0), .int p1, .ref ao]) ++ List.replicate (4 - (lg_sl ([.ref (a 0), .int p1, .ref ao])).length) Slot.unset).toArray = ls at hl ⊢
  have hl : lv_has ls 4 [(0, .ref (a 0)), (1, .int p1), (2, .ref ao)] := hl
  obtain ⟨H0, hHe⟩ : ∃ H : Heap, s.heap = H := ⟨_, rfl⟩
  have hS : va_S A s.heap H0 [] := by rw [← hHe]; exact va_S.rf
  rw [hHe] at hP ⊢
  have hP := zP_perm (List.perm_append_comm (l₁ := [(ao, zoc tt vo)]) (l₂ := wL tt a b d wd fa od hd qc qs bc bs tl rl H q w fr tr g re fi ro im r pk cz lh lp se md ff)) hP
  have hD := zD_perm (List.perm_append_comm (l₁ := [(ao, zoc tt vo)]) (l₂ := wL tt a b d wd fa od hd qc qs bc bs tl rl H q w fr tr g re fi ro im r pk cz lh lp se md ff)) hD
  refine lv_aload_n hx hb dL_bound_0 rfl (lv_at hl 2 rfl) ?_
  refine lv_iconst (v := (0 : Int32)) hx hb dL_bound_1 (by decide) ?_
  refine lv_aload_n hx hb dL_bound_2 rfl (lv_at hl 0 rfl) ?_
  refine lv_iload_n hx hb dL_bound_3 rfl (lv_at hl 1 rfl) ?_
  refine z_callXl (wc := wL tt a b d wd fa od hd qc qs bc bs tl rl H q w fr tr g re fi ro im r pk cz lh lp se md ff) (wr := [(ao, zoc tt vo)]) (As := [.int p1]) (rest := [.int (0 : Int32), .ref ao]) (ci := 10) ⟨hx, hb, hml, hown, hts⟩ hK hN hX hP hD hS hA9 (nX11_bound l G tt sa hlt H0.size K a b d wd fa od hd qc qs bc bs tl rl H q w fr tr g re fi ro im r pk cz lh lp se md ff p1 RR hF) (cwV 1 hts gL_bound_X11_bound rfl rfl rfl (by decide +kernel) ⟨Nat.le_of_ble_eq_true rfl, Nat.le_of_ble_eq_true rfl⟩) rfl rfl rfl hl.1 rfl (Nat.le_of_ble_eq_true rfl) dL_bound_4 ⟨Nat.le_of_ble_eq_true rfl, Nat.le_of_ble_eq_true rfl⟩ (fun k ce q9 H0 locs hk hP hD hS hce hcv hcl => ?_) (fun rr u H0 locs hw hP hD hS => ?_)
  · rcases hA with ⟨k9, hk9, ek, rfl⟩ | ⟨v9, ev, rfl⟩
    · obtain rfl : k9 = k := Sum.inl.inj (ek.symm.trans hk)
      have hk9 : k9 = 0 := by simpa using hk9
      subst hk9
      have hz : zout id vo RR.1 = vo := by rw [hk]; rfl
      refine vx_catch (name := zEx 0) hown [] ⟨0, 8, 11, 21⟩ [] (htab.trans rfl) (fun z hz => by
          exact absurd hz List.not_mem_nil) (by decide) (by decide) (hts (.classLink RL 21 (zEx 0)) (List.mem_of_getElem? (i := 1) rfl)) (zX_cast hX 0 (by decide)) hce hcv hcl ?_
      refine lv_astore_n (lv' := [(3, .ref q9), (0, .ref (a 0)), (1, .int p1), (2, .ref ao)]) hx hb dL_bound_11 rfl hl (by decide) rfl (fun ls hl => ?_)
      refine lv_iconst (v := (1 : Int32)) hx hb dL_bound_12 (by decide) ?_
      exact W.iret (v := (1 : Int32)) hx hb hr (fun t ht hW => ⟨⟨(1 : Int32), RR.2, rfl, ⟨rfl, rfl⟩, by rw [ht, hz]; exact hP, va_K.moved hW.alike hK, by rw [hz]; exact hD⟩, hS.F ht⟩) hS.2.2 dL_bound_13
    · cases hk.symm.trans ev
  · obtain ⟨er, hu⟩ := hw
    subst hu
    rcases hA with ⟨k9, hk9, ek, rfl⟩ | ⟨v9, ev, rfl⟩
    · cases er.symm.trans ek
    obtain rfl : v9 = rr := Sum.inr.inj (ev.symm.trans er)
    refine va_last hx hb hK hP hD hS 0 1 rfl rfl (inB_vp (by decide)) dL_bound_7 (fun H0 locs hP hD hS => ?_)
    have hP9 : va_P G vwCl ((ao, zoc tt (zout id vo RR.1)) :: wL tt a b d wd fa od hd qc qs bc bs tl rl H (RR.2.1, RR.2.2.1, RR.2.2.2.1, RR.2.2.2.2.1, RR.2.2.2.2.2.1, RR.2.2.2.2.2.2.1, RR.2.2.2.2.2.2.2.1, RR.2.2.2.2.2.2.2.2.1, RR.2.2.2.2.2.2.2.2.2.1, RR.2.2.2.2.2.2.2.2.2.2.1, RR.2.2.2.2.2.2.2.2.2.2.2.1, RR.2.2.2.2.2.2.2.2.2.2.2.2.1, RR.2.2.2.2.2.2.2.2.2.2.2.2.2.1) RR.2.2.2.2.2.2.2.2.2.2.2.2.2.2.1 RR.2.2.2.2.2.2.2.2.2.2.2.2.2.2.2.1 tr RR.2.2.2.2.2.2.2.2.2.2.2.2.2.2.2.2.1 RR.2.2.2.2.2.2.2.2.2.2.2.2.2.2.2.2.2.1 RR.2.2.2.2.2.2.2.2.2.2.2.2.2.2.2.2.2.2.1 RR.2.2.2.2.2.2.2.2.2.2.2.2.2.2.2.2.2.2.2.1 RR.2.2.2.2.2.2.2.2.2.2.2.2.2.2.2.2.2.2.2.2.1 r pk RR.2.2.2.2.2.2.2.2.2.2.2.2.2.2.2.2.2.2.2.2.2.1 RR.2.2.2.2.2.2.2.2.2.2.2.2.2.2.2.2.2.2.2.2.2.2.1 RR.2.2.2.2.2.2.2.2.2.2.2.2.2.2.2.2.2.2.2.2.2.2.2 se md ff) H0 := by rw [er]; exact hP
    have hD9 : va_D A ((ao, zoc tt (zout id vo RR.1)) :: wL tt a b d wd fa od hd qc qs bc bs tl rl H (RR.2.1, RR.2.2.1, RR.2.2.2.1, RR.2.2.2.2.1, RR.2.2.2.2.2.1, RR.2.2.2.2.2.2.1, RR.2.2.2.2.2.2.2.1, RR.2.2.2.2.2.2.2.2.1, RR.2.2.2.2.2.2.2.2.2.1, RR.2.2.2.2.2.2.2.2.2.2.1, RR.2.2.2.2.2.2.2.2.2.2.2.1, RR.2.2.2.2.2.2.2.2.2.2.2.2.1, RR.2.2.2.2.2.2.2.2.2.2.2.2.2.1) RR.2.2.2.2.2.2.2.2.2.2.2.2.2.2.1 RR.2.2.2.2.2.2.2.2.2.2.2.2.2.2.2.1 tr RR.2.2.2.2.2.2.2.2.2.2.2.2.2.2.2.2.1 RR.2.2.2.2.2.2.2.2.2.2.2.2.2.2.2.2.2.1 RR.2.2.2.2.2.2.2.2.2.2.2.2.2.2.2.2.2.2.1 RR.2.2.2.2.2.2.2.2.2.2.2.2.2.2.2.2.2.2.2.1 RR.2.2.2.2.2.2.2.2.2.2.2.2.2.2.2.2.2.2.2.2.1 r pk RR.2.2.2.2.2.2.2.2.2.2.2.2.2.2.2.2.2.2.2.2.2.1 RR.2.2.2.2.2.2.2.2.2.2.2.2.2.2.2.2.2.2.2.2.2.2.1 RR.2.2.2.2.2.2.2.2.2.2.2.2.2.2.2.2.2.2.2.2.2.2.2 se md ff) := by rw [er]; exact hD
    refine lv_goto (tgt := 14) hx hb dL_bound_8 (by decide) ?_
    refine lv_iconst (v := (0 : Int32)) hx hb dL_bound_14 (by decide) ?_
    exact W.iret (v := (0 : Int32)) hx hb hr (fun t ht hW => ⟨⟨(0 : Int32), RR.2, rfl, ⟨rfl, rfl⟩, by rw [ht]; exact hP9, va_K.moved hW.alike hK, hD9⟩, hS.F ht⟩) hS.2.2 dL_bound_15

set_option maxHeartbeats 4000000 in
set_option maxRecDepth 100000 in
theorem mL_isIdle (l : Launch) (G : va_G) (tt : Nat → ClassId) (sa : Nat → Nat) (hlt : l.stackTraces = false) (sz : Nat) (K : Nat) (a : Nat → Nat) (b : Nat → Nat → Nat) (d : Nat → Nat → Nat → Nat) (wd : Nat → Int32) (fa : Nat → Int64) (od hd : Nat → Int32) (qc : Nat → Nat → Int32) (qs : Nat → Int32) (bc : Nat → Nat → Int32) (bs : Nat → Int32) (tl rl : Int32) (H : zH12) (q : zR13) (w fr : Nat → Int64) (tr g re fi : Nat → Int32) (ro im : Int32) (r : zR15) (pk : Int32) (cz : Nat → Int32) (lh : Int32) (lp : Int64) (se : Nat → Int32) (md : Nat → Int64) (ff : Int32) (p1 : Int32) (ao : Nat) (vo : Nat → Int64) (RR : (Nat ⊕ Bool) × Unit) (hF : fX11_isIdle K hd bc bs rl p1 = some RR) (bb : Bool × Int32) (hA : zAg [0] false RR.1 bb) : Met l yL_isIdle wsL_isIdle ({ frames := 8, cells := 1, slots := 6, locals := 132 } : Room) (zPreL G (zTy tt) sa [.ref (a 0), .int p1, .ref ao] sz ((ao, zoc tt vo) :: wL tt a b d wd fa od hd qc qs bc bs tl rl H q w fr tr g re fi ro im r pk cz lh lp se md ff)) (va_Qi (fun (r : Int32) (u : Unit) => r = bb.2 ∧ u = RR.2) (zAt G (zTy tt) (va_A ((ao, zoc tt vo) :: wL tt a b d wd fa od hd qc qs bc bs tl rl H q w fr tr g re fi ro im r pk cz lh lp se md ff) sz) (fun _ : Unit => (ao, zoc tt (zout zbL vo RR.1)) :: wL tt a b d wd fa od hd qc qs bc bs tl rl H q w fr tr g re fi ro im r pk cz lh lp se md ff)) (va_A ((ao, zoc tt vo) :: wL tt a b d wd fa od hd qc qs bc bs tl rl H q w fr tr g re fi ro im r pk cz lh lp se md ff) sz)) 1 6 (va_A ((ao, zoc tt vo) :: wL tt a b d wd fa od hd qc qs bc bs tl rl H q w fr tr g re fi ro im r pk cz lh lp se md ff) sz) := by
  refine va_MetW (cc := cL_isIdle) (maxL := 4) (ret := (some .int)) (hh := [(0, 16, 19, 21)]) (by decide +kernel) rfl ?_
  intro p e s m args below meth c s₁ B hml hv
  obtain ⟨⟨rfl, hsz, hP, hK, hD0, hN, hX⟩, hL⟩ := hv
  have hx := B.exec
  have hb := B.bytes
  have hr := B.returns
  have hts := atoms_spec (ws := wsL_isIdle) B.pre
  have hown : s.vm.findClass RL = some m.cls := findClass_of_methodNamed B.named
  have hlocks := B.notSynchronized
  have htab : c.exceptionTable.toList = tableOf [(0, 16, 19, 21)] := vx_table (x := yL_isIdle) B (hts _ List.mem_cons_self)
  subst hsz
  have hD := hD0.self (sz := s.heap.size)
  generalize hAe : va_A ((ao, zoc tt vo) :: wL tt a b d wd fa od hd qc qs bc bs tl rl H q w fr tr g re fi ro im r pk cz lh lp se md ff) s.heap.size = A at hD hX ⊢
  have hA9 : ∀ q : Nat, s.heap.size ≤ q → A q := fun q h => by rw [← hAe]; exact Or.inr h
  have hl := lv_entry ([.ref (a 0), .int p1, .ref ao]) (n := 4) (Nat.le_of_ble_eq_true rfl)
  rw [lg_entry_eq]
  generalize (lg_sl ([.ref (a 0), .int p1, .ref ao]) ++ List.replicate (4 - (lg_sl ([.ref (a 0), .int p1, .ref ao])).length) Slot.unset).toArray = ls at hl ⊢
  have hl : lv_has ls 4 [(0, .ref (a 0)), (1, .int p1), (2, .ref ao)] := hl
  obtain ⟨H0, hHe⟩ : ∃ H : Heap, s.heap = H := ⟨_, rfl⟩
  have hS : va_S A s.heap H0 [] := by rw [← hHe]; exact va_S.rf
  rw [hHe] at hP ⊢
  have hP := zP_perm (List.perm_append_comm (l₁ := [(ao, zoc tt vo)]) (l₂ := wL tt a b d wd fa od hd qc qs bc bs tl rl H q w fr tr g re fi ro im r pk cz lh lp se md ff)) hP
  have hD := zD_perm (List.perm_append_comm (l₁ := [(ao, zoc tt vo)]) (l₂ := wL tt a b d wd fa od hd qc qs bc bs tl rl H q w fr tr g re fi ro im r pk cz lh lp se md ff)) hD
  refine lv_aload_n hx hb dL_isIdle_0 rfl (lv_at hl 2 rfl) ?_
  refine lv_iconst (v := (0 : Int32)) hx hb dL_isIdle_1 (by decide) ?_
  refine lv_aload_n hx hb dL_isIdle_2 rfl (lv_at hl 0 rfl) ?_
  refine lv_iload_n hx hb dL_isIdle_3 rfl (lv_at hl 1 rfl) ?_
  refine z_callXi (wc := wL tt a b d wd fa od hd qc qs bc bs tl rl H q w fr tr g re fi ro im r pk cz lh lp se md ff) (wr := [(ao, zoc tt vo)]) (As := [.int p1]) (rest := [.int (0 : Int32), .ref ao]) (ci := 10) ⟨hx, hb, hml, hown, hts⟩ hK hN hX hP hD hS hA9 (nX11_isIdle l G tt sa hlt H0.size K a b d wd fa od hd qc qs bc bs tl rl H q w fr tr g re fi ro im r pk cz lh lp se md ff p1 RR hF) (cwV 1 hts gL_isIdle_X11_isIdle rfl rfl rfl (by decide +kernel) ⟨Nat.le_of_ble_eq_true rfl, Nat.le_of_ble_eq_true rfl⟩) rfl rfl rfl hl.1 rfl (Nat.le_of_ble_eq_true rfl) dL_isIdle_4 ⟨Nat.le_of_ble_eq_true rfl, Nat.le_of_ble_eq_true rfl⟩ (fun k ce q9 H0 locs hk hP hD hS hce hcv hcl => ?_) (fun rr u H0 locs hw hP hD hS => ?_)
  · rcases hA with ⟨k9, hk9, ek, rfl⟩ | ⟨v9, ev, rfl⟩
    · obtain rfl : k9 = k := Sum.inl.inj (ek.symm.trans hk)
      have hk9 : k9 = 0 := by simpa using hk9
      subst hk9
      have hz : zout zbL vo RR.1 = vo := by rw [hk]; rfl
      refine vx_catch (name := zEx 0) hown [] ⟨0, 16, 19, 21⟩ [] (htab.trans rfl) (fun z hz => by
          exact absurd hz List.not_mem_nil) (by decide) (by decide) (hts (.classLink RL 21 (zEx 0)) (List.mem_of_getElem? (i := 1) rfl)) (zX_cast hX 0 (by decide)) hce hcv hcl ?_
      refine lv_astore_n (lv' := [(3, .ref q9), (0, .ref (a 0)), (1, .int p1), (2, .ref ao)]) hx hb dL_isIdle_19 rfl hl (by decide) rfl (fun ls hl => ?_)
      refine lv_iconst (v := (1 : Int32)) hx hb dL_isIdle_20 (by decide) ?_
      exact W.iret (v := (1 : Int32)) hx hb hr (fun t ht hW => ⟨⟨(1 : Int32), RR.2, rfl, ⟨rfl, rfl⟩, by rw [ht, hz]; exact hP, va_K.moved hW.alike hK, by rw [hz]; exact hD⟩, hS.F ht⟩) hS.2.2 dL_isIdle_21
    · cases hk.symm.trans ev
  · obtain ⟨⟨bq, er, rfl⟩, hu⟩ := hw
    subst hu
    rcases hA with ⟨k9, hk9, ek, rfl⟩ | ⟨v9, ev, rfl⟩
    · cases er.symm.trans ek
    obtain rfl : v9 = bq := Sum.inr.inj (ev.symm.trans er)
    cases v9
    · refine lv_if_eq (tgt := 14) hx hb dL_isIdle_7 (by decide) (fun _ => ?_) (fun h9 => absurd rfl h9)
      refine lv_lconst (v := (0 : Int64)) hx hb dL_isIdle_14 (by decide) ?_
      refine va_last hx hb hK hP hD hS 0 1 rfl rfl (inB_vp (by decide)) dL_isIdle_15 (fun H0 locs hP hD hS => ?_)
      have hP9 : va_P G vwCl ((ao, zoc tt (zout zbL vo RR.1)) :: wL tt a b d wd fa od hd qc qs bc bs tl rl H q w fr tr g re fi ro im r pk cz lh lp se md ff) H0 := by rw [er]; exact hP
      have hD9 : va_D A ((ao, zoc tt (zout zbL vo RR.1)) :: wL tt a b d wd fa od hd qc qs bc bs tl rl H q w fr tr g re fi ro im r pk cz lh lp se md ff) := by rw [er]; exact hD
      refine lv_goto (tgt := 22) hx hb dL_isIdle_16 (by decide) ?_
      refine lv_iconst (v := (0 : Int32)) hx hb dL_isIdle_22 (by decide) ?_
      exact W.iret (v := (0 : Int32)) hx hb hr (fun t ht hW => ⟨⟨(0 : Int32), RR.2, rfl, ⟨rfl, rfl⟩, by rw [ht]; exact hP9, va_K.moved hW.alike hK, hD9⟩, hS.F ht⟩) hS.2.2 dL_isIdle_23
    · refine lv_if_eq (tgt := 14) hx hb dL_isIdle_7 (by decide) (fun h9 => absurd h9 (by decide)) (fun _ => ?_)
      refine lv_lconst (v := (1 : Int64)) hx hb dL_isIdle_10 (by decide) ?_
      refine lv_goto (tgt := 15) hx hb dL_isIdle_11 (by decide) ?_
      refine va_last hx hb hK hP hD hS 0 1 rfl rfl (inB_vp (by decide)) dL_isIdle_15 (fun H0 locs hP hD hS => ?_)
      have hP9 : va_P G vwCl ((ao, zoc tt (zout zbL vo RR.1)) :: wL tt a b d wd fa od hd qc qs bc bs tl rl H q w fr tr g re fi ro im r pk cz lh lp se md ff) H0 := by rw [er]; exact hP
      have hD9 : va_D A ((ao, zoc tt (zout zbL vo RR.1)) :: wL tt a b d wd fa od hd qc qs bc bs tl rl H q w fr tr g re fi ro im r pk cz lh lp se md ff) := by rw [er]; exact hD
      refine lv_goto (tgt := 22) hx hb dL_isIdle_16 (by decide) ?_
      refine lv_iconst (v := (0 : Int32)) hx hb dL_isIdle_22 (by decide) ?_
      exact W.iret (v := (0 : Int32)) hx hb hr (fun t ht hW => ⟨⟨(0 : Int32), RR.2, rfl, ⟨rfl, rfl⟩, by rw [ht]; exact hP9, va_K.moved hW.alike hK, hD9⟩, hS.F ht⟩) hS.2.2 dL_isIdle_23

set_option maxHeartbeats 4000000 in
set_option maxRecDepth 100000 in
theorem mL_layerOf (l : Launch) (G : va_G) (tt : Nat → ClassId) (sa : Nat → Nat) (hlt : l.stackTraces = false) (sz : Nat) (K : Nat) (a : Nat → Nat) (b : Nat → Nat → Nat) (d : Nat → Nat → Nat → Nat) (wd : Nat → Int32) (fa : Nat → Int64) (od hd : Nat → Int32) (qc : Nat → Nat → Int32) (qs : Nat → Int32) (bc : Nat → Nat → Int32) (bs : Nat → Int32) (tl rl : Int32) (H : zH12) (q : zR13) (w fr : Nat → Int64) (tr g re fi : Nat → Int32) (ro im : Int32) (r : zR15) (pk : Int32) (cz : Nat → Int32) (lh : Int32) (lp : Int64) (se : Nat → Int32) (md : Nat → Int64) (ff : Int32) (p1 : Int32) (ao : Nat) (vo : Nat → Int64) (RR : (Nat ⊕ Int32) × (Nat → Int32) × Int32 × (Nat → Int32) × (Nat → Int32) × (Nat → Int32) × (Nat → Int32) × (Nat → Int32) × (Nat → Int32) × Int32 × Int32 × Int32 × Int32 × Int32 × (Nat → Int64) × (Nat → Int64) × (Nat → Int32) × (Nat → Int32) × (Nat → Int32) × Int32 × Int32) (hF : fX11_layerOf K fa hd bc bs tl rl p1 q.1 q.2.1 q.2.2.1 q.2.2.2.1 q.2.2.2.2.1 q.2.2.2.2.2.1 q.2.2.2.2.2.2.1 q.2.2.2.2.2.2.2.1 q.2.2.2.2.2.2.2.2.1 q.2.2.2.2.2.2.2.2.2.1 q.2.2.2.2.2.2.2.2.2.2.1 q.2.2.2.2.2.2.2.2.2.2.2.1 q.2.2.2.2.2.2.2.2.2.2.2.2 w fr g re fi ro im = some RR) (bb : Int32 × Int32) (hA : zAg [0] 0 RR.1 bb) : Met l yL_layerOf wsL_layerOf ({ frames := 8, cells := 1, slots := 6, locals := 185 } : Room) (zPreL G (zTy tt) sa [.ref (a 0), .int p1, .ref ao] sz ((ao, zoc tt vo) :: wL tt a b d wd fa od hd qc qs bc bs tl rl H q w fr tr g re fi ro im r pk cz lh lp se md ff)) (va_Qi (fun (r : Int32) (u : (Nat → Int32) × Int32 × (Nat → Int32) × (Nat → Int32) × (Nat → Int32) × (Nat → Int32) × (Nat → Int32) × (Nat → Int32) × Int32 × Int32 × Int32 × Int32 × Int32 × (Nat → Int64) × (Nat → Int64) × (Nat → Int32) × (Nat → Int32) × (Nat → Int32) × Int32 × Int32) => r = bb.2 ∧ u = RR.2) (zAt G (zTy tt) (va_A ((ao, zoc tt vo) :: wL tt a b d wd fa od hd qc qs bc bs tl rl H q w fr tr g re fi ro im r pk cz lh lp se md ff) sz) (fun u : (Nat → Int32) × Int32 × (Nat → Int32) × (Nat → Int32) × (Nat → Int32) × (Nat → Int32) × (Nat → Int32) × (Nat → Int32) × Int32 × Int32 × Int32 × Int32 × Int32 × (Nat → Int64) × (Nat → Int64) × (Nat → Int32) × (Nat → Int32) × (Nat → Int32) × Int32 × Int32 => (ao, zoc tt (zout Int32.toInt64 vo RR.1)) :: wL tt a b d wd fa od hd qc qs bc bs tl rl H (u.1, u.2.1, u.2.2.1, u.2.2.2.1, u.2.2.2.2.1, u.2.2.2.2.2.1, u.2.2.2.2.2.2.1, u.2.2.2.2.2.2.2.1, u.2.2.2.2.2.2.2.2.1, u.2.2.2.2.2.2.2.2.2.1, u.2.2.2.2.2.2.2.2.2.2.1, u.2.2.2.2.2.2.2.2.2.2.2.1, u.2.2.2.2.2.2.2.2.2.2.2.2.1) u.2.2.2.2.2.2.2.2.2.2.2.2.2.1 u.2.2.2.2.2.2.2.2.2.2.2.2.2.2.1 tr u.2.2.2.2.2.2.2.2.2.2.2.2.2.2.2.1 u.2.2.2.2.2.2.2.2.2.2.2.2.2.2.2.2.1 u.2.2.2.2.2.2.2.2.2.2.2.2.2.2.2.2.2.1 u.2.2.2.2.2.2.2.2.2.2.2.2.2.2.2.2.2.2.1 u.2.2.2.2.2.2.2.2.2.2.2.2.2.2.2.2.2.2.2 r pk cz lh lp se md ff)) (va_A ((ao, zoc tt vo) :: wL tt a b d wd fa od hd qc qs bc bs tl rl H q w fr tr g re fi ro im r pk cz lh lp se md ff) sz)) 1 6 (va_A ((ao, zoc tt vo) :: wL tt a b d wd fa od hd qc qs bc bs tl rl H q w fr tr g re fi ro im r pk cz lh lp se md ff) sz) := by
  refine va_MetW (cc := cL_layerOf) (maxL := 4) (ret := (some .int)) (hh := [(0, 9, 12, 21)]) (by decide +kernel) rfl ?_
  intro p e s m args below meth c s₁ B hml hv
  obtain ⟨⟨rfl, hsz, hP, hK, hD0, hN, hX⟩, hL⟩ := hv
  have hx := B.exec
  have hb := B.bytes
  have hr := B.returns
  have hts := atoms_spec (ws := wsL_layerOf) B.pre
  have hown : s.vm.findClass RL = some m.cls := findClass_of_methodNamed B.named
  have hlocks := B.notSynchronized
  have htab : c.exceptionTable.toList = tableOf [(0, 9, 12, 21)] := vx_table (x := yL_layerOf) B (hts _ List.mem_cons_self)
  subst hsz
  have hD := hD0.self (sz := s.heap.size)
  generalize hAe : va_A ((ao, zoc tt vo) :: wL tt a b d wd fa od hd qc qs bc bs tl rl H q w fr tr g re fi ro im r pk cz lh lp se md ff) s.heap.size = A at hD hX ⊢
  have hA9 : ∀ q : Nat, s.heap.size ≤ q → A q := fun q h => by rw [← hAe]; exact Or.inr h
  have hl := lv_entry ([.ref (a 0), .int p1, .ref ao]) (n := 4) (Nat.le_of_ble_eq_true rfl)
  rw [lg_entry_eq]
  generalize (lg_sl ([.ref (a 0), .int p1, .ref ao]) ++ List.replicate (4 - (lg_sl ([.ref (a 0), .int p1, .ref ao])).length) Slot.unset).toArray = ls at hl ⊢
  have hl : lv_has ls 4 [(0, .ref (a 0)), (1, .int p1), (2, .ref ao)] := hl
  obtain ⟨H0, hHe⟩ : ∃ H : Heap, s.heap = H := ⟨_, rfl⟩
  have hS : va_S A s.heap H0 [] := by rw [← hHe]; exact va_S.rf
  rw [hHe] at hP ⊢
  have hP := zP_perm (List.perm_append_comm (l₁ := [(ao, zoc tt vo)]) (l₂ := wL tt a b d wd fa od hd qc qs bc bs tl rl H q w fr tr g re fi ro im r pk cz lh lp se md ff)) hP
  have hD := zD_perm (List.perm_append_comm (l₁ := [(ao, zoc tt vo)]) (l₂ := wL tt a b d wd fa od hd qc qs bc bs tl rl H q w fr tr g re fi ro im r pk cz lh lp se md ff)) hD
  refine lv_aload_n hx hb dL_layerOf_0 rfl (lv_at hl 2 rfl) ?_
  refine lv_iconst (v := (0 : Int32)) hx hb dL_layerOf_1 (by decide) ?_
  refine lv_aload_n hx hb dL_layerOf_2 rfl (lv_at hl 0 rfl) ?_
  refine lv_iload_n hx hb dL_layerOf_3 rfl (lv_at hl 1 rfl) ?_
  refine z_callXi (wc := wL tt a b d wd fa od hd qc qs bc bs tl rl H q w fr tr g re fi ro im r pk cz lh lp se md ff) (wr := [(ao, zoc tt vo)]) (As := [.int p1]) (rest := [.int (0 : Int32), .ref ao]) (ci := 10) ⟨hx, hb, hml, hown, hts⟩ hK hN hX hP hD hS hA9 (nX11_layerOf l G tt sa hlt H0.size K a b d wd fa od hd qc qs bc bs tl rl H q w fr tr g re fi ro im r pk cz lh lp se md ff p1 RR hF) (cwV 1 hts gL_layerOf_X11_layerOf rfl rfl rfl (by decide +kernel) ⟨Nat.le_of_ble_eq_true rfl, Nat.le_of_ble_eq_true rfl⟩) rfl rfl rfl hl.1 rfl (Nat.le_of_ble_eq_true rfl) dL_layerOf_4 ⟨Nat.le_of_ble_eq_true rfl, Nat.le_of_ble_eq_true rfl⟩ (fun k ce q9 H0 locs hk hP hD hS hce hcv hcl => ?_) (fun rr u H0 locs hw hP hD hS => ?_)
  · rcases hA with ⟨k9, hk9, ek, rfl⟩ | ⟨v9, ev, rfl⟩
    · obtain rfl : k9 = k := Sum.inl.inj (ek.symm.trans hk)
      have hk9 : k9 = 0 := by simpa using hk9
      subst hk9
      have hz : zout Int32.toInt64 vo RR.1 = vo := by rw [hk]; rfl
      refine vx_catch (name := zEx 0) hown [] ⟨0, 9, 12, 21⟩ [] (htab.trans rfl) (fun z hz => by
          exact absurd hz List.not_mem_nil) (by decide) (by decide) (hts (.classLink RL 21 (zEx 0)) (List.mem_of_getElem? (i := 1) rfl)) (zX_cast hX 0 (by decide)) hce hcv hcl ?_
      refine lv_astore_n (lv' := [(3, .ref q9), (0, .ref (a 0)), (1, .int p1), (2, .ref ao)]) hx hb dL_layerOf_12 rfl hl (by decide) rfl (fun ls hl => ?_)
      refine lv_iconst (v := (1 : Int32)) hx hb dL_layerOf_13 (by decide) ?_
      exact W.iret (v := (1 : Int32)) hx hb hr (fun t ht hW => ⟨⟨(1 : Int32), RR.2, rfl, ⟨rfl, rfl⟩, by rw [ht, hz]; exact hP, va_K.moved hW.alike hK, by rw [hz]; exact hD⟩, hS.F ht⟩) hS.2.2 dL_layerOf_14
    · cases hk.symm.trans ev
  · obtain ⟨er, hu⟩ := hw
    subst hu
    rcases hA with ⟨k9, hk9, ek, rfl⟩ | ⟨v9, ev, rfl⟩
    · cases er.symm.trans ek
    obtain rfl : v9 = rr := Sum.inr.inj (ev.symm.trans er)
    refine lv_i2l hx hb dL_layerOf_7 rfl ?_
    refine va_last hx hb hK hP hD hS 0 1 rfl rfl (inB_vp (by decide)) dL_layerOf_8 (fun H0 locs hP hD hS => ?_)
    have hP9 : va_P G vwCl ((ao, zoc tt (zout Int32.toInt64 vo RR.1)) :: wL tt a b d wd fa od hd qc qs bc bs tl rl H (RR.2.1, RR.2.2.1, RR.2.2.2.1, RR.2.2.2.2.1, RR.2.2.2.2.2.1, RR.2.2.2.2.2.2.1, RR.2.2.2.2.2.2.2.1, RR.2.2.2.2.2.2.2.2.1, RR.2.2.2.2.2.2.2.2.2.1, RR.2.2.2.2.2.2.2.2.2.2.1, RR.2.2.2.2.2.2.2.2.2.2.2.1, RR.2.2.2.2.2.2.2.2.2.2.2.2.1, RR.2.2.2.2.2.2.2.2.2.2.2.2.2.1) RR.2.2.2.2.2.2.2.2.2.2.2.2.2.2.1 RR.2.2.2.2.2.2.2.2.2.2.2.2.2.2.2.1 tr RR.2.2.2.2.2.2.2.2.2.2.2.2.2.2.2.2.1 RR.2.2.2.2.2.2.2.2.2.2.2.2.2.2.2.2.2.1 RR.2.2.2.2.2.2.2.2.2.2.2.2.2.2.2.2.2.2.1 RR.2.2.2.2.2.2.2.2.2.2.2.2.2.2.2.2.2.2.2.1 RR.2.2.2.2.2.2.2.2.2.2.2.2.2.2.2.2.2.2.2.2 r pk cz lh lp se md ff) H0 := by rw [er]; exact hP
    have hD9 : va_D A ((ao, zoc tt (zout Int32.toInt64 vo RR.1)) :: wL tt a b d wd fa od hd qc qs bc bs tl rl H (RR.2.1, RR.2.2.1, RR.2.2.2.1, RR.2.2.2.2.1, RR.2.2.2.2.2.1, RR.2.2.2.2.2.2.1, RR.2.2.2.2.2.2.2.1, RR.2.2.2.2.2.2.2.2.1, RR.2.2.2.2.2.2.2.2.2.1, RR.2.2.2.2.2.2.2.2.2.2.1, RR.2.2.2.2.2.2.2.2.2.2.2.1, RR.2.2.2.2.2.2.2.2.2.2.2.2.1, RR.2.2.2.2.2.2.2.2.2.2.2.2.2.1) RR.2.2.2.2.2.2.2.2.2.2.2.2.2.2.1 RR.2.2.2.2.2.2.2.2.2.2.2.2.2.2.2.1 tr RR.2.2.2.2.2.2.2.2.2.2.2.2.2.2.2.2.1 RR.2.2.2.2.2.2.2.2.2.2.2.2.2.2.2.2.2.1 RR.2.2.2.2.2.2.2.2.2.2.2.2.2.2.2.2.2.2.1 RR.2.2.2.2.2.2.2.2.2.2.2.2.2.2.2.2.2.2.2.1 RR.2.2.2.2.2.2.2.2.2.2.2.2.2.2.2.2.2.2.2.2 r pk cz lh lp se md ff) := by rw [er]; exact hD
    refine lv_goto (tgt := 15) hx hb dL_layerOf_9 (by decide) ?_
    refine lv_iconst (v := (0 : Int32)) hx hb dL_layerOf_15 (by decide) ?_
    exact W.iret (v := (0 : Int32)) hx hb hr (fun t ht hW => ⟨⟨(0 : Int32), RR.2, rfl, ⟨rfl, rfl⟩, by rw [ht]; exact hP9, va_K.moved hW.alike hK, hD9⟩, hS.F ht⟩) hS.2.2 dL_layerOf_16

set_option maxHeartbeats 4000000 in
set_option maxRecDepth 100000 in
theorem mL_firings (l : Launch) (G : va_G) (tt : Nat → ClassId) (sa : Nat → Nat) (hlt : l.stackTraces = false) (sz : Nat) (K : Nat) (a : Nat → Nat) (b : Nat → Nat → Nat) (d : Nat → Nat → Nat → Nat) (wd : Nat → Int32) (fa : Nat → Int64) (od hd : Nat → Int32) (qc : Nat → Nat → Int32) (qs : Nat → Int32) (bc : Nat → Nat → Int32) (bs : Nat → Int32) (tl rl : Int32) (H : zH12) (q : zR13) (w fr : Nat → Int64) (tr g re fi : Nat → Int32) (ro im : Int32) (r : zR15) (pk : Int32) (cz : Nat → Int32) (lh : Int32) (lp : Int64) (se : Nat → Int32) (md : Nat → Int64) (ff : Int32) (p1 : Int32) (ao : Nat) (vo : Nat → Int64) (RR : (Nat ⊕ Int32) × (Nat → Int32) × Int32 × (Nat → Int32) × (Nat → Int32) × (Nat → Int32) × (Nat → Int32) × (Nat → Int32) × (Nat → Int32) × Int32 × Int32 × Int32 × Int32 × Int32 × (Nat → Int64) × (Nat → Int64) × (Nat → Int32) × (Nat → Int32) × (Nat → Int32) × Int32 × Int32) (hF : fX11_firings K fa hd bc bs rl p1 q.1 q.2.1 q.2.2.1 q.2.2.2.1 q.2.2.2.2.1 q.2.2.2.2.2.1 q.2.2.2.2.2.2.1 q.2.2.2.2.2.2.2.1 q.2.2.2.2.2.2.2.2.1 q.2.2.2.2.2.2.2.2.2.1 q.2.2.2.2.2.2.2.2.2.2.1 q.2.2.2.2.2.2.2.2.2.2.2.1 q.2.2.2.2.2.2.2.2.2.2.2.2 w fr g re fi ro im = some RR) (bb : Int32 × Int32) (hA : zAg [0] 0 RR.1 bb) : Met l yL_firings wsL_firings ({ frames := 8, cells := 1, slots := 6, locals := 185 } : Room) (zPreL G (zTy tt) sa [.ref (a 0), .int p1, .ref ao] sz ((ao, zoc tt vo) :: wL tt a b d wd fa od hd qc qs bc bs tl rl H q w fr tr g re fi ro im r pk cz lh lp se md ff)) (va_Qi (fun (r : Int32) (u : (Nat → Int32) × Int32 × (Nat → Int32) × (Nat → Int32) × (Nat → Int32) × (Nat → Int32) × (Nat → Int32) × (Nat → Int32) × Int32 × Int32 × Int32 × Int32 × Int32 × (Nat → Int64) × (Nat → Int64) × (Nat → Int32) × (Nat → Int32) × (Nat → Int32) × Int32 × Int32) => r = bb.2 ∧ u = RR.2) (zAt G (zTy tt) (va_A ((ao, zoc tt vo) :: wL tt a b d wd fa od hd qc qs bc bs tl rl H q w fr tr g re fi ro im r pk cz lh lp se md ff) sz) (fun u : (Nat → Int32) × Int32 × (Nat → Int32) × (Nat → Int32) × (Nat → Int32) × (Nat → Int32) × (Nat → Int32) × (Nat → Int32) × Int32 × Int32 × Int32 × Int32 × Int32 × (Nat → Int64) × (Nat → Int64) × (Nat → Int32) × (Nat → Int32) × (Nat → Int32) × Int32 × Int32 => (ao, zoc tt (zout Int32.toInt64 vo RR.1)) :: wL tt a b d wd fa od hd qc qs bc bs tl rl H (u.1, u.2.1, u.2.2.1, u.2.2.2.1, u.2.2.2.2.1, u.2.2.2.2.2.1, u.2.2.2.2.2.2.1, u.2.2.2.2.2.2.2.1, u.2.2.2.2.2.2.2.2.1, u.2.2.2.2.2.2.2.2.2.1, u.2.2.2.2.2.2.2.2.2.2.1, u.2.2.2.2.2.2.2.2.2.2.2.1, u.2.2.2.2.2.2.2.2.2.2.2.2.1) u.2.2.2.2.2.2.2.2.2.2.2.2.2.1 u.2.2.2.2.2.2.2.2.2.2.2.2.2.2.1 tr u.2.2.2.2.2.2.2.2.2.2.2.2.2.2.2.1 u.2.2.2.2.2.2.2.2.2.2.2.2.2.2.2.2.1 u.2.2.2.2.2.2.2.2.2.2.2.2.2.2.2.2.2.1 u.2.2.2.2.2.2.2.2.2.2.2.2.2.2.2.2.2.2.1 u.2.2.2.2.2.2.2.2.2.2.2.2.2.2.2.2.2.2.2 r pk cz lh lp se md ff)) (va_A ((ao, zoc tt vo) :: wL tt a b d wd fa od hd qc qs bc bs tl rl H q w fr tr g re fi ro im r pk cz lh lp se md ff) sz)) 1 6 (va_A ((ao, zoc tt vo) :: wL tt a b d wd fa od hd qc qs bc bs tl rl H q w fr tr g re fi ro im r pk cz lh lp se md ff) sz) := by
  refine va_MetW (cc := cL_firings) (maxL := 4) (ret := (some .int)) (hh := [(0, 9, 12, 21)]) (by decide +kernel) rfl ?_
  intro p e s m args below meth c s₁ B hml hv
  obtain ⟨⟨rfl, hsz, hP, hK, hD0, hN, hX⟩, hL⟩ := hv
  have hx := B.exec
  have hb := B.bytes
  have hr := B.returns
  have hts := atoms_spec (ws := wsL_firings) B.pre
  have hown : s.vm.findClass RL = some m.cls := findClass_of_methodNamed B.named
  have hlocks := B.notSynchronized
  have htab : c.exceptionTable.toList = tableOf [(0, 9, 12, 21)] := vx_table (x := yL_firings) B (hts _ List.mem_cons_self)
  subst hsz
  have hD := hD0.self (sz := s.heap.size)
  generalize hAe : va_A ((ao, zoc tt vo) :: wL tt a b d wd fa od hd qc qs bc bs tl rl H q w fr tr g re fi ro im r pk cz lh lp se md ff) s.heap.size = A at hD hX ⊢
  have hA9 : ∀ q : Nat, s.heap.size ≤ q → A q := fun q h => by rw [← hAe]; exact Or.inr h
  have hl := lv_entry ([.ref (a 0), .int p1, .ref ao]) (n := 4) (Nat.le_of_ble_eq_true rfl)
  rw [lg_entry_eq]
  generalize (lg_sl ([.ref (a 0), .int p1, .ref ao]) ++ List.replicate (4 - (lg_sl ([.ref (a 0), .int p1, .ref ao])).length) Slot.unset).toArray = ls at hl ⊢
  have hl : lv_has ls 4 [(0, .ref (a 0)), (1, .int p1), (2, .ref ao)] := hl
  obtain ⟨H0, hHe⟩ : ∃ H : Heap, s.heap = H := ⟨_, rfl⟩
  have hS : va_S A s.heap H0 [] := by rw [← hHe]; exact va_S.rf
  rw [hHe] at hP ⊢
  have hP := zP_perm (List.perm_append_comm (l₁ := [(ao, zoc tt vo)]) (l₂ := wL tt a b d wd fa od hd qc qs bc bs tl rl H q w fr tr g re fi ro im r pk cz lh lp se md ff)) hP
  have hD := zD_perm (List.perm_append_comm (l₁ := [(ao, zoc tt vo)]) (l₂ := wL tt a b d wd fa od hd qc qs bc bs tl rl H q w fr tr g re fi ro im r pk cz lh lp se md ff)) hD
  refine lv_aload_n hx hb dL_firings_0 rfl (lv_at hl 2 rfl) ?_
  refine lv_iconst (v := (0 : Int32)) hx hb dL_firings_1 (by decide) ?_
  refine lv_aload_n hx hb dL_firings_2 rfl (lv_at hl 0 rfl) ?_
  refine lv_iload_n hx hb dL_firings_3 rfl (lv_at hl 1 rfl) ?_
  refine z_callXi (wc := wL tt a b d wd fa od hd qc qs bc bs tl rl H q w fr tr g re fi ro im r pk cz lh lp se md ff) (wr := [(ao, zoc tt vo)]) (As := [.int p1]) (rest := [.int (0 : Int32), .ref ao]) (ci := 10) ⟨hx, hb, hml, hown, hts⟩ hK hN hX hP hD hS hA9 (nX11_firings l G tt sa hlt H0.size K a b d wd fa od hd qc qs bc bs tl rl H q w fr tr g re fi ro im r pk cz lh lp se md ff p1 RR hF) (cwV 1 hts gL_firings_X11_firings rfl rfl rfl (by decide +kernel) ⟨Nat.le_of_ble_eq_true rfl, Nat.le_of_ble_eq_true rfl⟩) rfl rfl rfl hl.1 rfl (Nat.le_of_ble_eq_true rfl) dL_firings_4 ⟨Nat.le_of_ble_eq_true rfl, Nat.le_of_ble_eq_true rfl⟩ (fun k ce q9 H0 locs hk hP hD hS hce hcv hcl => ?_) (fun rr u H0 locs hw hP hD hS => ?_)
  · rcases hA with ⟨k9, hk9, ek, rfl⟩ | ⟨v9, ev, rfl⟩
    · obtain rfl : k9 = k := Sum.inl.inj (ek.symm.trans hk)
      have hk9 : k9 = 0 := by simpa using hk9
      subst hk9
      have hz : zout Int32.toInt64 vo RR.1 = vo := by rw [hk]; rfl
      refine vx_catch (name := zEx 0) hown [] ⟨0, 9, 12, 21⟩ [] (htab.trans rfl) (fun z hz => by
          exact absurd hz List.not_mem_nil) (by decide) (by decide) (hts (.classLink RL 21 (zEx 0)) (List.mem_of_getElem? (i := 1) rfl)) (zX_cast hX 0 (by decide)) hce hcv hcl ?_
      refine lv_astore_n (lv' := [(3, .ref q9), (0, .ref (a 0)), (1, .int p1), (2, .ref ao)]) hx hb dL_firings_12 rfl hl (by decide) rfl (fun ls hl => ?_)
      refine lv_iconst (v := (1 : Int32)) hx hb dL_firings_13 (by decide) ?_
      exact W.iret (v := (1 : Int32)) hx hb hr (fun t ht hW => ⟨⟨(1 : Int32), RR.2, rfl, ⟨rfl, rfl⟩, by rw [ht, hz]; exact hP, va_K.moved hW.alike hK, by rw [hz]; exact hD⟩, hS.F ht⟩) hS.2.2 dL_firings_14
    · cases hk.symm.trans ev
  · obtain ⟨er, hu⟩ := hw
    subst hu
    rcases hA with ⟨k9, hk9, ek, rfl⟩ | ⟨v9, ev, rfl⟩
    · cases er.symm.trans ek
    obtain rfl : v9 = rr := Sum.inr.inj (ev.symm.trans er)
    refine lv_i2l hx hb dL_firings_7 rfl ?_
    refine va_last hx hb hK hP hD hS 0 1 rfl rfl (inB_vp (by decide)) dL_firings_8 (fun H0 locs hP hD hS => ?_)
    have hP9 : va_P G vwCl ((ao, zoc tt (zout Int32.toInt64 vo RR.1)) :: wL tt a b d wd fa od hd qc qs bc bs tl rl H (RR.2.1, RR.2.2.1, RR.2.2.2.1, RR.2.2.2.2.1, RR.2.2.2.2.2.1, RR.2.2.2.2.2.2.1, RR.2.2.2.2.2.2.2.1, RR.2.2.2.2.2.2.2.2.1, RR.2.2.2.2.2.2.2.2.2.1, RR.2.2.2.2.2.2.2.2.2.2.1, RR.2.2.2.2.2.2.2.2.2.2.2.1, RR.2.2.2.2.2.2.2.2.2.2.2.2.1, RR.2.2.2.2.2.2.2.2.2.2.2.2.2.1) RR.2.2.2.2.2.2.2.2.2.2.2.2.2.2.1 RR.2.2.2.2.2.2.2.2.2.2.2.2.2.2.2.1 tr RR.2.2.2.2.2.2.2.2.2.2.2.2.2.2.2.2.1 RR.2.2.2.2.2.2.2.2.2.2.2.2.2.2.2.2.2.1 RR.2.2.2.2.2.2.2.2.2.2.2.2.2.2.2.2.2.2.1 RR.2.2.2.2.2.2.2.2.2.2.2.2.2.2.2.2.2.2.2.1 RR.2.2.2.2.2.2.2.2.2.2.2.2.2.2.2.2.2.2.2.2 r pk cz lh lp se md ff) H0 := by rw [er]; exact hP
    have hD9 : va_D A ((ao, zoc tt (zout Int32.toInt64 vo RR.1)) :: wL tt a b d wd fa od hd qc qs bc bs tl rl H (RR.2.1, RR.2.2.1, RR.2.2.2.1, RR.2.2.2.2.1, RR.2.2.2.2.2.1, RR.2.2.2.2.2.2.1, RR.2.2.2.2.2.2.2.1, RR.2.2.2.2.2.2.2.2.1, RR.2.2.2.2.2.2.2.2.2.1, RR.2.2.2.2.2.2.2.2.2.2.1, RR.2.2.2.2.2.2.2.2.2.2.2.1, RR.2.2.2.2.2.2.2.2.2.2.2.2.1, RR.2.2.2.2.2.2.2.2.2.2.2.2.2.1) RR.2.2.2.2.2.2.2.2.2.2.2.2.2.2.1 RR.2.2.2.2.2.2.2.2.2.2.2.2.2.2.2.1 tr RR.2.2.2.2.2.2.2.2.2.2.2.2.2.2.2.2.1 RR.2.2.2.2.2.2.2.2.2.2.2.2.2.2.2.2.2.1 RR.2.2.2.2.2.2.2.2.2.2.2.2.2.2.2.2.2.2.1 RR.2.2.2.2.2.2.2.2.2.2.2.2.2.2.2.2.2.2.2.1 RR.2.2.2.2.2.2.2.2.2.2.2.2.2.2.2.2.2.2.2.2 r pk cz lh lp se md ff) := by rw [er]; exact hD
    refine lv_goto (tgt := 15) hx hb dL_firings_9 (by decide) ?_
    refine lv_iconst (v := (0 : Int32)) hx hb dL_firings_15 (by decide) ?_
    exact W.iret (v := (0 : Int32)) hx hb hr (fun t ht hW => ⟨⟨(0 : Int32), RR.2, rfl, ⟨rfl, rfl⟩, by rw [ht]; exact hP9, va_K.moved hW.alike hK, hD9⟩, hS.F ht⟩) hS.2.2 dL_firings_16
