/-! constructors: the small ones -/
set_option maxHeartbeats 16000000 in
set_option maxRecDepth 100000 in
theorem mX6_initN4 (l : Launch) (G : va_G) (tt : Nat → ClassId) (sz : Nat) (ah : Nat) (RR : (Nat → Int32)) (hF : fX6_initN4 = some RR) : Met l yX6_init wsX6_init ({ frames := 1, cells := 1, slots := 4, locals := 23 } : Room) (zPreI G (zTy tt) [.ref ah, .int (4 : Int32)] sz [(ah, .inr (5, [.null]))]) (va_Qv (fun _ : Nat => True) (zAt G (zTy tt) (va_A [(ah, .inr (5, [.null]))] sz) (fun u : Nat => [(ah, .inr (5, [.ref u])), (u, .inl (tt 0, 4, .inl RR))])) (va_A [(ah, .inr (5, [.null]))] sz)) 1 4 (va_A [(ah, .inr (5, [.null]))] sz) := by
  refine Met.ofW (cc := cX6_init) (maxL := 2) (ret := none) (by decide +kernel) rfl ?_
  intro p e s m args below meth c s₁ B hml hv
  obtain ⟨rfl, hsz, hP, hK, hD0, hN, hO⟩ := hv
  have hx := B.exec
  have hb := B.bytes
  have hr := B.returns
  have hts := atoms_spec (ws := wsX6_init) B.pre
  have hin : meth.name = "<init>" := (name_of_methodNamed B.named B.method).1
  have hown : s.vm.findClass RX6 = some m.cls := findClass_of_methodNamed B.named
  have hlocks := B.notSynchronized
  subst hsz
  have hD := hD0.self (sz := s.heap.size)
  generalize hAe : va_A [(ah, .inr (5, [.null]))] s.heap.size = A at hD ⊢
  have hA : ∀ q : Nat, s.heap.size ≤ q → A q := fun q h => by rw [← hAe]; exact Or.inr h
  have hP : va_P G vwCl [(ah, .inr (5, [.null]))] s.heap := hP
  have hiX6 : ∀ w ∈ wsX60, w ∈ wsX6_init := by decide +kernel
  have hl := lv_entry ([.ref ah, .int (4 : Int32)]) (n := 2) (Nat.le_of_ble_eq_true rfl)
  rw [lg_entry_eq]
  generalize (lg_sl ([.ref ah, .int (4 : Int32)]) ++ List.replicate (2 - (lg_sl ([.ref ah, .int (4 : Int32)])).length) Slot.unset).toArray = ls at hl ⊢
  have hl : lv_has ls 2 [(0, .ref ah), (1, .int (4 : Int32))] := hl
  obtain ⟨H, hHe⟩ : ∃ H : Heap, s.heap = H := ⟨_, rfl⟩
  have hS : va_S A s.heap H [] := by rw [← hHe]; exact va_S.rf
  rw [hHe] at hP ⊢
  unfold fX6_initN4 at hF
  refine lv_aload_n hx hb dX6_init_0 rfl (lv_at hl 0 rfl) ?_
  refine z_objInit hx hb hown (hts (.methodLink RX6 1 objectInit) (List.mem_of_getElem? (i := 1) rfl)) (hts (.instanceMethod objectInit) (List.mem_of_getElem? (i := 2) rfl)) (hts (.code objectInit ⟨#[0xb1]⟩ 1 none) (List.mem_of_getElem? (i := 3) rfl)) (hl.1.trans hml.symm) dX6_init_1 (Nat.le_of_ble_eq_true rfl) (Nat.le_of_ble_eq_true rfl) ?_
  refine lv_aload_n hx hb dX6_init_4 rfl (lv_at hl 0 rfl) ?_
  refine lv_iload_n hx hb dX6_init_5 rfl (lv_at hl 1 rfl) ?_
  refine lv_if_ge (tgt := 13) hx hb dX6_init_6 (by decide) (fun _ => ?_) (fun h9 => absurd h9 (by decide))
  refine lv_iload_n hx hb dX6_init_13 rfl (lv_at hl 1 rfl) ?_
  refine z_newa (atype := .int) (ty := .int) (N' := 4) (a0 := (4, .inl (fun _ => (0 : Int32)))) hx hb (hts (.arrayClass .int) (List.mem_of_getElem? (i := 4) rfl)) rfl hK hP hD hS hA 0 rfl (fun _ => rfl) (by decide) (by decide +kernel) (Nat.le_of_ble_eq_true rfl) (Nat.le_of_ble_eq_true rfl) (Nat.le_of_ble_eq_true rfl) dX6_init_14 (fun an1 H hP hD hS => ?_)
  refine va_putF (D := G) (ci := 5) (v := .ref an1) (ty := (.array .int)) (C := RX6) (T := TX6) (N := 1) hx hb hts hiX6 tyX6 tyX6_ok nmX6 hown hK hP hD hS 0 rfl rfl 0 (by decide) (hts (.fieldLink RX6 7 "LeapTables$Ints" "cells" "[I") (List.mem_of_getElem? (i := 5) rfl)) (fun _ h9 => h9) rfl hin rfl (by decide +kernel) rfl rfl (Nat.le_of_ble_eq_true rfl) dX6_init_16 (fun H locs hP hD hS => ?_)
  have hPD : zPD G A [(ah, .inr (5, [.ref an1])), (an1, .inl (tt 0, 4, .inl (fun _ => (0 : Int32))))] H := ⟨hP.sub [0, 1] rfl, hD.sub [0, 1] (by decide +kernel) rfl⟩
  have hP9 := hPD.1
  have hD9 := hPD.2
  have hR := Option.some.inj hF
  subst hR
  exact W.vret hx hb hr (fun t ht hW => ⟨⟨(an1), rfl, trivial, by rw [ht]; exact hP9, va_K.moved hW.alike hK, hD9⟩, hS.F ht⟩) hS.2.2 dX6_init_19

set_option maxHeartbeats 16000000 in
set_option maxRecDepth 100000 in
theorem mX6_initN5 (l : Launch) (G : va_G) (tt : Nat → ClassId) (sz : Nat) (ah : Nat) (RR : (Nat → Int32)) (hF : fX6_initN5 = some RR) : Met l yX6_init wsX6_init ({ frames := 1, cells := 1, slots := 5, locals := 23 } : Room) (zPreI G (zTy tt) [.ref ah, .int (5 : Int32)] sz [(ah, .inr (5, [.null]))]) (va_Qv (fun _ : Nat => True) (zAt G (zTy tt) (va_A [(ah, .inr (5, [.null]))] sz) (fun u : Nat => [(ah, .inr (5, [.ref u])), (u, .inl (tt 0, 5, .inl RR))])) (va_A [(ah, .inr (5, [.null]))] sz)) 1 5 (va_A [(ah, .inr (5, [.null]))] sz) := by
  refine Met.ofW (cc := cX6_init) (maxL := 2) (ret := none) (by decide +kernel) rfl ?_
  intro p e s m args below meth c s₁ B hml hv
  obtain ⟨rfl, hsz, hP, hK, hD0, hN, hO⟩ := hv
  have hx := B.exec
  have hb := B.bytes
  have hr := B.returns
  have hts := atoms_spec (ws := wsX6_init) B.pre
  have hin : meth.name = "<init>" := (name_of_methodNamed B.named B.method).1
  have hown : s.vm.findClass RX6 = some m.cls := findClass_of_methodNamed B.named
  have hlocks := B.notSynchronized
  subst hsz
  have hD := hD0.self (sz := s.heap.size)
  generalize hAe : va_A [(ah, .inr (5, [.null]))] s.heap.size = A at hD ⊢
  have hA : ∀ q : Nat, s.heap.size ≤ q → A q := fun q h => by rw [← hAe]; exact Or.inr h
  have hP : va_P G vwCl [(ah, .inr (5, [.null]))] s.heap := hP
  have hiX6 : ∀ w ∈ wsX60, w ∈ wsX6_init := by decide +kernel
  have hl := lv_entry ([.ref ah, .int (5 : Int32)]) (n := 2) (Nat.le_of_ble_eq_true rfl)
  rw [lg_entry_eq]
  generalize (lg_sl ([.ref ah, .int (5 : Int32)]) ++ List.replicate (2 - (lg_sl ([.ref ah, .int (5 : Int32)])).length) Slot.unset).toArray = ls at hl ⊢
  have hl : lv_has ls 2 [(0, .ref ah), (1, .int (5 : Int32))] := hl
  obtain ⟨H, hHe⟩ : ∃ H : Heap, s.heap = H := ⟨_, rfl⟩
  have hS : va_S A s.heap H [] := by rw [← hHe]; exact va_S.rf
  rw [hHe] at hP ⊢
  unfold fX6_initN5 at hF
  refine lv_aload_n hx hb dX6_init_0 rfl (lv_at hl 0 rfl) ?_
  refine z_objInit hx hb hown (hts (.methodLink RX6 1 objectInit) (List.mem_of_getElem? (i := 1) rfl)) (hts (.instanceMethod objectInit) (List.mem_of_getElem? (i := 2) rfl)) (hts (.code objectInit ⟨#[0xb1]⟩ 1 none) (List.mem_of_getElem? (i := 3) rfl)) (hl.1.trans hml.symm) dX6_init_1 (Nat.le_of_ble_eq_true rfl) (Nat.le_of_ble_eq_true rfl) ?_
  refine lv_aload_n hx hb dX6_init_4 rfl (lv_at hl 0 rfl) ?_
  refine lv_iload_n hx hb dX6_init_5 rfl (lv_at hl 1 rfl) ?_
  refine lv_if_ge (tgt := 13) hx hb dX6_init_6 (by decide) (fun _ => ?_) (fun h9 => absurd h9 (by decide))
  refine lv_iload_n hx hb dX6_init_13 rfl (lv_at hl 1 rfl) ?_
  refine z_newa (atype := .int) (ty := .int) (N' := 5) (a0 := (5, .inl (fun _ => (0 : Int32)))) hx hb (hts (.arrayClass .int) (List.mem_of_getElem? (i := 4) rfl)) rfl hK hP hD hS hA 0 rfl (fun _ => rfl) (by decide) (by decide +kernel) (Nat.le_of_ble_eq_true rfl) (Nat.le_of_ble_eq_true rfl) (Nat.le_of_ble_eq_true rfl) dX6_init_14 (fun an1 H hP hD hS => ?_)
  refine va_putF (D := G) (ci := 5) (v := .ref an1) (ty := (.array .int)) (C := RX6) (T := TX6) (N := 1) hx hb hts hiX6 tyX6 tyX6_ok nmX6 hown hK hP hD hS 0 rfl rfl 0 (by decide) (hts (.fieldLink RX6 7 "LeapTables$Ints" "cells" "[I") (List.mem_of_getElem? (i := 5) rfl)) (fun _ h9 => h9) rfl hin rfl (by decide +kernel) rfl rfl (Nat.le_of_ble_eq_true rfl) dX6_init_16 (fun H locs hP hD hS => ?_)
  have hPD : zPD G A [(ah, .inr (5, [.ref an1])), (an1, .inl (tt 0, 5, .inl (fun _ => (0 : Int32))))] H := ⟨hP.sub [0, 1] rfl, hD.sub [0, 1] (by decide +kernel) rfl⟩
  have hP9 := hPD.1
  have hD9 := hPD.2
  have hR := Option.some.inj hF
  subst hR
  exact W.vret hx hb hr (fun t ht hW => ⟨⟨(an1), rfl, trivial, by rw [ht]; exact hP9, va_K.moved hW.alike hK, hD9⟩, hS.F ht⟩) hS.2.2 dX6_init_19

set_option maxHeartbeats 16000000 in
set_option maxRecDepth 100000 in
theorem mX6_initN2560 (l : Launch) (G : va_G) (tt : Nat → ClassId) (sz : Nat) (ah : Nat) (RR : (Nat → Int32)) (hF : fX6_initN2560 = some RR) : Met l yX6_init wsX6_init ({ frames := 1, cells := 1, slots := 2560, locals := 23 } : Room) (zPreI G (zTy tt) [.ref ah, .int (2560 : Int32)] sz [(ah, .inr (5, [.null]))]) (va_Qv (fun _ : Nat => True) (zAt G (zTy tt) (va_A [(ah, .inr (5, [.null]))] sz) (fun u : Nat => [(ah, .inr (5, [.ref u])), (u, .inl (tt 0, 2560, .inl RR))])) (va_A [(ah, .inr (5, [.null]))] sz)) 1 2560 (va_A [(ah, .inr (5, [.null]))] sz) := by
  refine Met.ofW (cc := cX6_init) (maxL := 2) (ret := none) (by decide +kernel) rfl ?_
  intro p e s m args below meth c s₁ B hml hv
  obtain ⟨rfl, hsz, hP, hK, hD0, hN, hO⟩ := hv
  have hx := B.exec
  have hb := B.bytes
  have hr := B.returns
  have hts := atoms_spec (ws := wsX6_init) B.pre
  have hin : meth.name = "<init>" := (name_of_methodNamed B.named B.method).1
  have hown : s.vm.findClass RX6 = some m.cls := findClass_of_methodNamed B.named
  have hlocks := B.notSynchronized
  subst hsz
  have hD := hD0.self (sz := s.heap.size)
  generalize hAe : va_A [(ah, .inr (5, [.null]))] s.heap.size = A at hD ⊢
  have hA : ∀ q : Nat, s.heap.size ≤ q → A q := fun q h => by rw [← hAe]; exact Or.inr h
  have hP : va_P G vwCl [(ah, .inr (5, [.null]))] s.heap := hP
  have hiX6 : ∀ w ∈ wsX60, w ∈ wsX6_init := by decide +kernel
  have hl := lv_entry ([.ref ah, .int (2560 : Int32)]) (n := 2) (Nat.le_of_ble_eq_true rfl)
  rw [lg_entry_eq]
  generalize (lg_sl ([.ref ah, .int (2560 : Int32)]) ++ List.replicate (2 - (lg_sl ([.ref ah, .int (2560 : Int32)])).length) Slot.unset).toArray = ls at hl ⊢
  have hl : lv_has ls 2 [(0, .ref ah), (1, .int (2560 : Int32))] := hl
  obtain ⟨H, hHe⟩ : ∃ H : Heap, s.heap = H := ⟨_, rfl⟩
  have hS : va_S A s.heap H [] := by rw [← hHe]; exact va_S.rf
  rw [hHe] at hP ⊢
  unfold fX6_initN2560 at hF
  refine lv_aload_n hx hb dX6_init_0 rfl (lv_at hl 0 rfl) ?_
  refine z_objInit hx hb hown (hts (.methodLink RX6 1 objectInit) (List.mem_of_getElem? (i := 1) rfl)) (hts (.instanceMethod objectInit) (List.mem_of_getElem? (i := 2) rfl)) (hts (.code objectInit ⟨#[0xb1]⟩ 1 none) (List.mem_of_getElem? (i := 3) rfl)) (hl.1.trans hml.symm) dX6_init_1 (Nat.le_of_ble_eq_true rfl) (Nat.le_of_ble_eq_true rfl) ?_
  refine lv_aload_n hx hb dX6_init_4 rfl (lv_at hl 0 rfl) ?_
  refine lv_iload_n hx hb dX6_init_5 rfl (lv_at hl 1 rfl) ?_
  refine lv_if_ge (tgt := 13) hx hb dX6_init_6 (by decide) (fun _ => ?_) (fun h9 => absurd h9 (by decide))
  refine lv_iload_n hx hb dX6_init_13 rfl (lv_at hl 1 rfl) ?_
  refine z_newa (atype := .int) (ty := .int) (N' := 2560) (a0 := (2560, .inl (fun _ => (0 : Int32)))) hx hb (hts (.arrayClass .int) (List.mem_of_getElem? (i := 4) rfl)) rfl hK hP hD hS hA 0 rfl (fun _ => rfl) (by decide) (by decide +kernel) (Nat.le_of_ble_eq_true rfl) (Nat.le_of_ble_eq_true rfl) (Nat.le_of_ble_eq_true rfl) dX6_init_14 (fun an1 H hP hD hS => ?_)
  refine va_putF (D := G) (ci := 5) (v := .ref an1) (ty := (.array .int)) (C := RX6) (T := TX6) (N := 1) hx hb hts hiX6 tyX6 tyX6_ok nmX6 hown hK hP hD hS 0 rfl rfl 0 (by decide) (hts (.fieldLink RX6 7 "LeapTables$Ints" "cells" "[I") (List.mem_of_getElem? (i := 5) rfl)) (fun _ h9 => h9) rfl hin rfl (by decide +kernel) rfl rfl (Nat.le_of_ble_eq_true rfl) dX6_init_16 (fun H locs hP hD hS => ?_)
  have hPD : zPD G A [(ah, .inr (5, [.ref an1])), (an1, .inl (tt 0, 2560, .inl (fun _ => (0 : Int32))))] H := ⟨hP.sub [0, 1] rfl, hD.sub [0, 1] (by decide +kernel) rfl⟩
  have hP9 := hPD.1
  have hD9 := hPD.2
  have hR := Option.some.inj hF
  subst hR
  exact W.vret hx hb hr (fun t ht hW => ⟨⟨(an1), rfl, trivial, by rw [ht]; exact hP9, va_K.moved hW.alike hK, hD9⟩, hS.F ht⟩) hS.2.2 dX6_init_19

set_option maxHeartbeats 16000000 in
set_option maxRecDepth 100000 in
theorem mX7_init (l : Launch) (G : va_G) (tt : Nat → ClassId) (sz : Nat) (ah : Nat) (RR : (Nat → Int64)) (hF : fX7_init = some RR) : Met l yX7_init wsX7_init ({ frames := 1, cells := 1, slots := 40, locals := 23 } : Room) (zPreI G (zTy tt) [.ref ah] sz [(ah, .inr (6, [.null]))]) (va_Qv (fun _ : Nat => True) (zAt G (zTy tt) (va_A [(ah, .inr (6, [.null]))] sz) (fun u : Nat => [(ah, .inr (6, [.ref u])), (u, .inl (tt 1, 40, .inr (.inl RR)))])) (va_A [(ah, .inr (6, [.null]))] sz)) 1 40 (va_A [(ah, .inr (6, [.null]))] sz) := by
  refine Met.ofW (cc := cX7_init) (maxL := 1) (ret := none) (by decide +kernel) rfl ?_
  intro p e s m args below meth c s₁ B hml hv
  obtain ⟨rfl, hsz, hP, hK, hD0, hN, hO⟩ := hv
  have hx := B.exec
  have hb := B.bytes
  have hr := B.returns
  have hts := atoms_spec (ws := wsX7_init) B.pre
  have hin : meth.name = "<init>" := (name_of_methodNamed B.named B.method).1
  have hown : s.vm.findClass RX7 = some m.cls := findClass_of_methodNamed B.named
  have hlocks := B.notSynchronized
  subst hsz
  have hD := hD0.self (sz := s.heap.size)
  generalize hAe : va_A [(ah, .inr (6, [.null]))] s.heap.size = A at hD ⊢
  have hA : ∀ q : Nat, s.heap.size ≤ q → A q := fun q h => by rw [← hAe]; exact Or.inr h
  have hP : va_P G vwCl [(ah, .inr (6, [.null]))] s.heap := hP
  have hiX7 : ∀ w ∈ wsX70, w ∈ wsX7_init := by decide +kernel
  have hl := lv_entry ([.ref ah]) (n := 1) (Nat.le_of_ble_eq_true rfl)
  rw [lg_entry_eq]
  generalize (lg_sl ([.ref ah]) ++ List.replicate (1 - (lg_sl ([.ref ah])).length) Slot.unset).toArray = ls at hl ⊢
  have hl : lv_has ls 1 [(0, .ref ah)] := hl
  obtain ⟨H, hHe⟩ : ∃ H : Heap, s.heap = H := ⟨_, rfl⟩
  have hS : va_S A s.heap H [] := by rw [← hHe]; exact va_S.rf
  rw [hHe] at hP ⊢
  unfold fX7_init at hF
  refine lv_aload_n hx hb dX7_init_0 rfl (lv_at hl 0 rfl) ?_
  refine z_objInit hx hb hown (hts (.methodLink RX7 3 objectInit) (List.mem_of_getElem? (i := 1) rfl)) (hts (.instanceMethod objectInit) (List.mem_of_getElem? (i := 2) rfl)) (hts (.code objectInit ⟨#[0xb1]⟩ 1 none) (List.mem_of_getElem? (i := 3) rfl)) (hl.1.trans hml.symm) dX7_init_1 (Nat.le_of_ble_eq_true rfl) (Nat.le_of_ble_eq_true rfl) ?_
  refine lv_aload_n hx hb dX7_init_4 rfl (lv_at hl 0 rfl) ?_
  refine lv_bipush (v := (40 : Int32)) hx hb dX7_init_5 (by decide) ?_
  refine z_newa (atype := .long) (ty := .long) (N' := 40) (a0 := (40, .inr (.inl (fun _ => (0 : Int64))))) hx hb (hts (.arrayClass .long) (List.mem_of_getElem? (i := 4) rfl)) rfl hK hP hD hS hA 1 rfl (fun _ => rfl) (by decide) (by decide +kernel) (Nat.le_of_ble_eq_true rfl) (Nat.le_of_ble_eq_true rfl) (Nat.le_of_ble_eq_true rfl) dX7_init_7 (fun an1 H hP hD hS => ?_)
  refine va_putF (D := G) (ci := 6) (v := .ref an1) (ty := (.array .long)) (C := RX7) (T := TX7) (N := 1) hx hb hts hiX7 tyX7 tyX7_ok nmX7 hown hK hP hD hS 0 rfl rfl 0 (by decide) (hts (.fieldLink RX7 9 "LeapTables$Rows" "words" "[J") (List.mem_of_getElem? (i := 5) rfl)) (fun _ h9 => h9) rfl hin rfl (by decide +kernel) rfl rfl (Nat.le_of_ble_eq_true rfl) dX7_init_9 (fun H locs hP hD hS => ?_)
  have hPD : zPD G A [(ah, .inr (6, [.ref an1])), (an1, .inl (tt 1, 40, .inr (.inl (fun _ => (0 : Int64)))))] H := ⟨hP.sub [0, 1] rfl, hD.sub [0, 1] (by decide +kernel) rfl⟩
  have hP9 := hPD.1
  have hD9 := hPD.2
  have hR := Option.some.inj hF
  subst hR
  exact W.vret hx hb hr (fun t ht hW => ⟨⟨(an1), rfl, trivial, by rw [ht]; exact hP9, va_K.moved hW.alike hK, hD9⟩, hS.F ht⟩) hS.2.2 dX7_init_12

set_option maxHeartbeats 16000000 in
set_option maxRecDepth 100000 in
theorem mX2_init (l : Launch) (G : va_G) (tt : Nat → ClassId) (sz : Nat) (ah : Nat) (RR : (Nat → Int32) × Int32) (hF : fX2_init = some RR) : Met l yX2_init wsX2_init ({ frames := 2, cells := 2, slots := 6, locals := 44 } : Room) (zPreI G (zTy tt) [.ref ah] sz [(ah, .inr (1, [.null, .int (0 : Int32)]))]) (va_Qv (fun _ : Nat × Nat => True) (zAt G (zTy tt) (va_A [(ah, .inr (1, [.null, .int (0 : Int32)]))] sz) (fun u : Nat × Nat => [(ah, .inr (1, [.ref u.1, .int RR.2])), (u.1, .inr (5, [.ref u.2])), (u.2, .inl (tt 0, 5, .inl RR.1))])) (va_A [(ah, .inr (1, [.null, .int (0 : Int32)]))] sz)) 2 6 (va_A [(ah, .inr (1, [.null, .int (0 : Int32)]))] sz) := by
  refine Met.ofW (cc := cX2_init) (maxL := 1) (ret := none) (by decide +kernel) rfl ?_
  intro p e s m args below meth c s₁ B hml hv
  obtain ⟨rfl, hsz, hP, hK, hD0, hN, hO⟩ := hv
  have hx := B.exec
  have hb := B.bytes
  have hr := B.returns
  have hts := atoms_spec (ws := wsX2_init) B.pre
  have hin : meth.name = "<init>" := (name_of_methodNamed B.named B.method).1
  have hown : s.vm.findClass RX2 = some m.cls := findClass_of_methodNamed B.named
  have hlocks := B.notSynchronized
  subst hsz
  have hD := hD0.self (sz := s.heap.size)
  generalize hAe : va_A [(ah, .inr (1, [.null, .int (0 : Int32)]))] s.heap.size = A at hD ⊢
  have hA : ∀ q : Nat, s.heap.size ≤ q → A q := fun q h => by rw [← hAe]; exact Or.inr h
  have hP : va_P G vwCl [(ah, .inr (1, [.null, .int (0 : Int32)]))] s.heap := hP
  have hiX2 : ∀ w ∈ wsX20, w ∈ wsX2_init := by decide +kernel
  have hiX6 : ∀ w ∈ wsX60, w ∈ wsX2_init := by decide +kernel
  have hl := lv_entry ([.ref ah]) (n := 1) (Nat.le_of_ble_eq_true rfl)
  rw [lg_entry_eq]
  generalize (lg_sl ([.ref ah]) ++ List.replicate (1 - (lg_sl ([.ref ah])).length) Slot.unset).toArray = ls at hl ⊢
  have hl : lv_has ls 1 [(0, .ref ah)] := hl
  obtain ⟨H, hHe⟩ : ∃ H : Heap, s.heap = H := ⟨_, rfl⟩
  have hS : va_S A s.heap H [] := by rw [← hHe]; exact va_S.rf
  rw [hHe] at hP ⊢
  unfold fX2_init at hF
  refine lv_aload_n hx hb dX2_init_0 rfl (lv_at hl 0 rfl) ?_
  refine z_objInit hx hb hown (hts (.methodLink RX2 3 objectInit) (List.mem_of_getElem? (i := 1) rfl)) (hts (.instanceMethod objectInit) (List.mem_of_getElem? (i := 2) rfl)) (hts (.code objectInit ⟨#[0xb1]⟩ 1 none) (List.mem_of_getElem? (i := 3) rfl)) (hl.1.trans hml.symm) dX2_init_1 (Nat.le_of_ble_eq_true rfl) (Nat.le_of_ble_eq_true rfl) ?_
  refine lv_aload_n hx hb dX2_init_4 rfl (lv_at hl 0 rfl) ?_
  refine va_new (D := G) (C := RX6) (T := TX6) (N := 1) (ci := 5) (fs := [.null]) hx hb hts hiX6 tyX6 tyX6_ok hown (hts (.classLink RX2 9 RX6) (List.mem_of_getElem? (i := 4) rfl)) (hts (.instantiable RX6 1) (List.mem_of_getElem? (i := 5) rfl)) (hts (.initialized RX6) (List.mem_of_getElem? (i := 6) rfl)) hK hP hD hS hA rfl (fun j hj => match j, hj with | 0, _ => rfl | (n9 + 1), h9 => absurd h9 (by omega)) (Nat.le_of_ble_eq_true rfl) (Nat.le_of_ble_eq_true rfl) dX2_init_5 (fun an1 H hP hD hS => ?_)
  refine lv_dup hx hb dX2_init_8 rfl ?_
  refine lv_iconst (v := (5 : Int32)) hx hb dX2_init_9 (by decide) ?_
  obtain ⟨q0, hc_q0, hF⟩ := z_bind hF
  refine z_backC (wr := [(ah, .inr (1, [.null, .int (0 : Int32)]))]) (z_goI (wc := [(an1, .inr (5, [.null]))]) (As := [.int (5 : Int32)]) (rest := [.ref an1, .ref ah]) ⟨hx, hb, hml, hown, hts⟩ hK hN hO hP hD (mX6_initN5 l G tt H.size an1 q0 hc_q0) (cwI 1 hts gX2_init_X6_init rfl rfl rfl (hts (.initialized RX6) (List.mem_of_getElem? (i := 6) rfl)) (hts (.methodLink RX2 11 yX6_init) (List.mem_of_getElem? (i := 8) rfl)) (hts (.instanceMethod yX6_init) (List.mem_of_getElem? (i := 9) rfl)) rfl (by decide +kernel) ⟨Nat.le_of_ble_eq_true rfl, Nat.le_of_ble_eq_true rfl⟩) [1] rfl (by decide +kernel) rfl hl.1 rfl (Nat.le_of_ble_eq_true rfl) dX2_init_10 ⟨Nat.le_of_ble_eq_true rfl, Nat.le_of_ble_eq_true rfl⟩) hP hD hS hA [1] [0] rfl rfl (by decide +kernel) (by decide +kernel) (fun an1_cells H locs hw hP hD hS => ?_)
  refine va_putF (D := G) (ci := 1) (v := .ref an1) (ty := (.object "LeapTables$Ints")) (C := RX2) (T := TX2) (N := 2) hx hb hts hiX2 tyX2 tyX2_ok nmX2 hown hK hP hD hS 0 rfl rfl 0 (by decide) (hts (.fieldLink RX2 14 "LeapTables$AtomList" "codes" "LLeapTables$Ints;") (List.mem_of_getElem? (i := 7) rfl)) (fun _ h9 => h9) rfl hin rfl (by decide +kernel) rfl rfl (Nat.le_of_ble_eq_true rfl) dX2_init_13 (fun H locs hP hD hS => ?_)
  have hPD : zPD G A [(ah, .inr (1, [.ref an1, .int (0 : Int32)])), (an1, .inr (5, [.ref an1_cells])), (an1_cells, .inl (tt 0, 5, .inl q0))] H := ⟨hP.sub [0, 1, 2] rfl, hD.sub [0, 1, 2] (by decide +kernel) rfl⟩
  have hP9 := hPD.1
  have hD9 := hPD.2
  have hR := Option.some.inj hF
  subst hR
  exact W.vret hx hb hr (fun t ht hW => ⟨⟨(an1, an1_cells), rfl, trivial, by rw [ht]; exact hP9, va_K.moved hW.alike hK, hD9⟩, hS.F ht⟩) hS.2.2 dX2_init_16

set_option maxHeartbeats 16000000 in
set_option maxRecDepth 100000 in
theorem mX8_init (l : Launch) (G : va_G) (tt : Nat → ClassId) (sz : Nat) (ah : Nat) (RR : (Nat → Int32) × Int32 × (Nat → Int32) × (Nat → Int32) × (Nat → Int32) × (Nat → Int32) × (Nat → Int32) × (Nat → Int32) × Int32 × Int32 × Int32 × Int32 × Int32) (hF : fX8_init = some RR) : Met l yX8_init wsX8_init ({ frames := 3, cells := 15, slots := 38, locals := 64 } : Room) (zPreI G (zTy tt) [.ref ah] sz [(ah, .inr (7, [.null, .null, .null, .null, .null, .null, .null, .int (0 : Int32), .int (0 : Int32), .int (0 : Int32), .int (0 : Int32), .int (0 : Int32)]))]) (va_Qv (fun _ : Nat × Nat × Nat × Nat × Nat × Nat × Nat × Nat × Nat × Nat × Nat × Nat × Nat × Nat × Nat => True) (zAt G (zTy tt) (va_A [(ah, .inr (7, [.null, .null, .null, .null, .null, .null, .null, .int (0 : Int32), .int (0 : Int32), .int (0 : Int32), .int (0 : Int32), .int (0 : Int32)]))] sz) (fun u : Nat × Nat × Nat × Nat × Nat × Nat × Nat × Nat × Nat × Nat × Nat × Nat × Nat × Nat × Nat => [(ah, .inr (7, [.ref u.1, .ref u.2.2.2.1, .ref u.2.2.2.2.2.1, .ref u.2.2.2.2.2.2.2.1, .ref u.2.2.2.2.2.2.2.2.2.1, .ref u.2.2.2.2.2.2.2.2.2.2.2.1, .ref u.2.2.2.2.2.2.2.2.2.2.2.2.2.1, .int RR.2.2.2.2.2.2.2.2.1, .int RR.2.2.2.2.2.2.2.2.2.1, .int RR.2.2.2.2.2.2.2.2.2.2.1, .int RR.2.2.2.2.2.2.2.2.2.2.2.1, .int RR.2.2.2.2.2.2.2.2.2.2.2.2])), (u.1, .inr (1, [.ref u.2.1, .int RR.2.1])), (u.2.1, .inr (5, [.ref u.2.2.1])), (u.2.2.1, .inl (tt 0, 5, .inl RR.1)), (u.2.2.2.1, .inr (5, [.ref u.2.2.2.2.1])), (u.2.2.2.2.1, .inl (tt 0, 4, .inl RR.2.2.1)), (u.2.2.2.2.2.1, .inr (5, [.ref u.2.2.2.2.2.2.1])), (u.2.2.2.2.2.2.1, .inl (tt 0, 4, .inl RR.2.2.2.1)), (u.2.2.2.2.2.2.2.1, .inr (5, [.ref u.2.2.2.2.2.2.2.2.1])), (u.2.2.2.2.2.2.2.2.1, .inl (tt 0, 4, .inl RR.2.2.2.2.1)), (u.2.2.2.2.2.2.2.2.2.1, .inr (5, [.ref u.2.2.2.2.2.2.2.2.2.2.1])), (u.2.2.2.2.2.2.2.2.2.2.1, .inl (tt 0, 4, .inl RR.2.2.2.2.2.1)), (u.2.2.2.2.2.2.2.2.2.2.2.1, .inr (5, [.ref u.2.2.2.2.2.2.2.2.2.2.2.2.1])), (u.2.2.2.2.2.2.2.2.2.2.2.2.1, .inl (tt 0, 4, .inl RR.2.2.2.2.2.2.1)), (u.2.2.2.2.2.2.2.2.2.2.2.2.2.1, .inr (5, [.ref u.2.2.2.2.2.2.2.2.2.2.2.2.2.2])), (u.2.2.2.2.2.2.2.2.2.2.2.2.2.2, .inl (tt 0, 4, .inl RR.2.2.2.2.2.2.2.1))])) (va_A [(ah, .inr (7, [.null, .null, .null, .null, .null, .null, .null, .int (0 : Int32), .int (0 : Int32), .int (0 : Int32), .int (0 : Int32), .int (0 : Int32)]))] sz)) 15 38 (va_A [(ah, .inr (7, [.null, .null, .null, .null, .null, .null, .null, .int (0 : Int32), .int (0 : Int32), .int (0 : Int32), .int (0 : Int32), .int (0 : Int32)]))] sz) := by
  refine Met.ofW (cc := cX8_init) (maxL := 1) (ret := none) (by decide +kernel) rfl ?_
  intro p e s m args below meth c s₁ B hml hv
  obtain ⟨rfl, hsz, hP, hK, hD0, hN, hO⟩ := hv
  have hx := B.exec
  have hb := B.bytes
  have hr := B.returns
  have hts := atoms_spec (ws := wsX8_init) B.pre
  have hin : meth.name = "<init>" := (name_of_methodNamed B.named B.method).1
  have hown : s.vm.findClass RX8 = some m.cls := findClass_of_methodNamed B.named
  have hlocks := B.notSynchronized
  subst hsz
  have hD := hD0.self (sz := s.heap.size)
  generalize hAe : va_A [(ah, .inr (7, [.null, .null, .null, .null, .null, .null, .null, .int (0 : Int32), .int (0 : Int32), .int (0 : Int32), .int (0 : Int32), .int (0 : Int32)]))] s.heap.size = A at hD ⊢
  have hA : ∀ q : Nat, s.heap.size ≤ q → A q := fun q h => by rw [← hAe]; exact Or.inr h
  have hP : va_P G vwCl [(ah, .inr (7, [.null, .null, .null, .null, .null, .null, .null, .int (0 : Int32), .int (0 : Int32), .int (0 : Int32), .int (0 : Int32), .int (0 : Int32)]))] s.heap := hP
  have hiX2 : ∀ w ∈ wsX20, w ∈ wsX8_init := by decide +kernel
  have hiX6 : ∀ w ∈ wsX60, w ∈ wsX8_init := by decide +kernel
  have hiX8 : ∀ w ∈ wsX80, w ∈ wsX8_init := by decide +kernel
  have hl := lv_entry ([.ref ah]) (n := 1) (Nat.le_of_ble_eq_true rfl)
  rw [lg_entry_eq]
  generalize (lg_sl ([.ref ah]) ++ List.replicate (1 - (lg_sl ([.ref ah])).length) Slot.unset).toArray = ls at hl ⊢
  have hl : lv_has ls 1 [(0, .ref ah)] := hl
  obtain ⟨H, hHe⟩ : ∃ H : Heap, s.heap = H := ⟨_, rfl⟩
  have hS : va_S A s.heap H [] := by rw [← hHe]; exact va_S.rf
  rw [hHe] at hP ⊢
  unfold fX8_init at hF
  refine lv_aload_n hx hb dX8_init_0 rfl (lv_at hl 0 rfl) ?_
  refine z_objInit hx hb hown (hts (.methodLink RX8 3 objectInit) (List.mem_of_getElem? (i := 1) rfl)) (hts (.instanceMethod objectInit) (List.mem_of_getElem? (i := 2) rfl)) (hts (.code objectInit ⟨#[0xb1]⟩ 1 none) (List.mem_of_getElem? (i := 3) rfl)) (hl.1.trans hml.symm) dX8_init_1 (Nat.le_of_ble_eq_true rfl) (Nat.le_of_ble_eq_true rfl) ?_
  refine lv_aload_n hx hb dX8_init_4 rfl (lv_at hl 0 rfl) ?_
  refine va_new (D := G) (C := RX2) (T := TX2) (N := 2) (ci := 1) (fs := [.null, .int 0]) hx hb hts hiX2 tyX2 tyX2_ok hown (hts (.classLink RX8 9 RX2) (List.mem_of_getElem? (i := 4) rfl)) (hts (.instantiable RX2 2) (List.mem_of_getElem? (i := 5) rfl)) (hts (.initialized RX2) (List.mem_of_getElem? (i := 6) rfl)) hK hP hD hS hA rfl (fun j hj => match j, hj with | 0, _ => rfl | 1, _ => rfl | (n9 + 2), h9 => absurd h9 (by omega)) (Nat.le_of_ble_eq_true rfl) (Nat.le_of_ble_eq_true rfl) dX8_init_5 (fun an1 H hP hD hS => ?_)
  refine lv_dup hx hb dX8_init_8 rfl ?_
  obtain ⟨q0, hc_q0, hF⟩ := z_bind hF
  refine z_backC (wr := [(ah, .inr (7, [.null, .null, .null, .null, .null, .null, .null, .int (0 : Int32), .int (0 : Int32), .int (0 : Int32), .int (0 : Int32), .int (0 : Int32)]))]) (z_goIN (wc := [(an1, .inr (1, [.null, .int (0 : Int32)]))]) (As := []) (rest := [.ref an1, .ref ah]) (host := "LeapTables") ⟨hx, hb, hml, hown, hts⟩ hK hN hO hP hD (mX2_init l G tt H.size an1 q0 hc_q0) ⟨va_cnB 0 hts gX8_init_X2_init_n11 rfl rfl rfl (hN.2 _ (List.mem_of_getElem? (i := 9) rfl)) (hts (.initialized RX2) (List.mem_of_getElem? (i := 6) rfl)) (by decide +kernel) ⟨Nat.le_of_ble_eq_true rfl, Nat.le_of_ble_eq_true rfl⟩, rfl, hts (.instanceMethod yX2_init) (List.mem_of_getElem? (i := 17) rfl)⟩ [1] rfl (by decide +kernel) rfl hl.1 rfl (Nat.le_of_ble_eq_true rfl) dX8_init_9 ⟨Nat.le_of_ble_eq_true rfl, Nat.le_of_ble_eq_true rfl⟩) hP hD hS hA [1] [0] rfl rfl (by decide +kernel) (by decide +kernel) (fun u H locs hw hP hD hS => ?_)
  obtain ⟨an1_codes, an1_codes_cells⟩ := u
  refine va_putF (D := G) (ci := 7) (v := .ref an1) (ty := (.object "LeapTables$AtomList")) (C := RX8) (T := TX8) (N := 12) hx hb hts hiX8 tyX8 tyX8_ok nmX8 hown hK hP hD hS 0 rfl rfl 0 (by decide) (hts (.fieldLink RX8 12 "LeapTables$Search" "atoms" "LLeapTables$AtomList;") (List.mem_of_getElem? (i := 7) rfl)) (fun _ h9 => h9) rfl hin rfl (by decide +kernel) rfl rfl (Nat.le_of_ble_eq_true rfl) dX8_init_12 (fun H locs hP hD hS => ?_)
  refine lv_aload_n hx hb dX8_init_15 rfl (lv_at hl 0 rfl) ?_
  refine va_new (D := G) (C := RX6) (T := TX6) (N := 1) (ci := 5) (fs := [.null]) hx hb hts hiX6 tyX6 tyX6_ok hown (hts (.classLink RX8 18 RX6) (List.mem_of_getElem? (i := 8) rfl)) (hts (.instantiable RX6 1) (List.mem_of_getElem? (i := 9) rfl)) (hts (.initialized RX6) (List.mem_of_getElem? (i := 10) rfl)) hK hP hD hS hA rfl (fun j hj => match j, hj with | 0, _ => rfl | (n9 + 1), h9 => absurd h9 (by omega)) (Nat.le_of_ble_eq_true rfl) (Nat.le_of_ble_eq_true rfl) dX8_init_16 (fun an2 H hP hD hS => ?_)
  refine lv_dup hx hb dX8_init_19 rfl ?_
  refine lv_iconst (v := (4 : Int32)) hx hb dX8_init_20 (by decide) ?_
  obtain ⟨q1, hc_q1, hF⟩ := z_bind hF
  refine z_backC (wr := [(ah, .inr (7, [.ref an1, .null, .null, .null, .null, .null, .null, .int (0 : Int32), .int (0 : Int32), .int (0 : Int32), .int (0 : Int32), .int (0 : Int32)])), (an1, .inr (1, [.ref an1_codes, .int q0.2])), (an1_codes, .inr (5, [.ref an1_codes_cells])), (an1_codes_cells, .inl (tt 0, 5, .inl q0.1))]) (z_goI (wc := [(an2, .inr (5, [.null]))]) (As := [.int (4 : Int32)]) (rest := [.ref an2, .ref ah]) ⟨hx, hb, hml, hown, hts⟩ hK hN hO hP hD (mX6_initN4 l G tt H.size an2 q1 hc_q1) (cwI 1 hts gX8_init_X6_init rfl rfl rfl (hts (.initialized RX6) (List.mem_of_getElem? (i := 10) rfl)) (hts (.methodLink RX8 20 yX6_init) (List.mem_of_getElem? (i := 28) rfl)) (hts (.instanceMethod yX6_init) (List.mem_of_getElem? (i := 23) rfl)) rfl (by decide +kernel) ⟨Nat.le_of_ble_eq_true rfl, Nat.le_of_ble_eq_true rfl⟩) [4] rfl (by decide +kernel) rfl hl.1 rfl (Nat.le_of_ble_eq_true rfl) dX8_init_21 ⟨Nat.le_of_ble_eq_true rfl, Nat.le_of_ble_eq_true rfl⟩) hP hD hS hA [4] [0, 1, 2, 3] rfl rfl (by decide +kernel) (by decide +kernel) (fun an2_cells H locs hw hP hD hS => ?_)
  refine va_putF (D := G) (ci := 7) (v := .ref an2) (ty := (.object "LeapTables$Ints")) (C := RX8) (T := TX8) (N := 12) hx hb hts hiX8 tyX8 tyX8_ok nmX8 hown hK hP hD hS 0 rfl rfl 1 (by decide) (hts (.fieldLink RX8 23 "LeapTables$Search" "sequence" "LLeapTables$Ints;") (List.mem_of_getElem? (i := 11) rfl)) (fun _ h9 => h9) rfl hin rfl (by decide +kernel) rfl rfl (Nat.le_of_ble_eq_true rfl) dX8_init_24 (fun H locs hP hD hS => ?_)
  refine lv_aload_n hx hb dX8_init_27 rfl (lv_at hl 0 rfl) ?_
  refine va_new (D := G) (C := RX6) (T := TX6) (N := 1) (ci := 5) (fs := [.null]) hx hb hts hiX6 tyX6 tyX6_ok hown (hts (.classLink RX8 18 RX6) (List.mem_of_getElem? (i := 8) rfl)) (hts (.instantiable RX6 1) (List.mem_of_getElem? (i := 9) rfl)) (hts (.initialized RX6) (List.mem_of_getElem? (i := 10) rfl)) hK hP hD hS hA rfl (fun j hj => match j, hj with | 0, _ => rfl | (n9 + 1), h9 => absurd h9 (by omega)) (Nat.le_of_ble_eq_true rfl) (Nat.le_of_ble_eq_true rfl) dX8_init_28 (fun an3 H hP hD hS => ?_)
  refine lv_dup hx hb dX8_init_31 rfl ?_
  refine lv_iconst (v := (4 : Int32)) hx hb dX8_init_32 (by decide) ?_
  obtain ⟨q2, hc_q2, hF⟩ := z_bind hF
  refine z_backC (wr := [(ah, .inr (7, [.ref an1, .ref an2, .null, .null, .null, .null, .null, .int (0 : Int32), .int (0 : Int32), .int (0 : Int32), .int (0 : Int32), .int (0 : Int32)])), (an1, .inr (1, [.ref an1_codes, .int q0.2])), (an1_codes, .inr (5, [.ref an1_codes_cells])), (an1_codes_cells, .inl (tt 0, 5, .inl q0.1)), (an2, .inr (5, [.ref an2_cells])), (an2_cells, .inl (tt 0, 4, .inl q1))]) (z_goI (wc := [(an3, .inr (5, [.null]))]) (As := [.int (4 : Int32)]) (rest := [.ref an3, .ref ah]) ⟨hx, hb, hml, hown, hts⟩ hK hN hO hP hD (mX6_initN4 l G tt H.size an3 q2 hc_q2) (cwI 1 hts gX8_init_X6_init rfl rfl rfl (hts (.initialized RX6) (List.mem_of_getElem? (i := 10) rfl)) (hts (.methodLink RX8 20 yX6_init) (List.mem_of_getElem? (i := 28) rfl)) (hts (.instanceMethod yX6_init) (List.mem_of_getElem? (i := 23) rfl)) rfl (by decide +kernel) ⟨Nat.le_of_ble_eq_true rfl, Nat.le_of_ble_eq_true rfl⟩) [6] rfl (by decide +kernel) rfl hl.1 rfl (Nat.le_of_ble_eq_true rfl) dX8_init_33 ⟨Nat.le_of_ble_eq_true rfl, Nat.le_of_ble_eq_true rfl⟩) hP hD hS hA [6] [0, 1, 2, 3, 4, 5] rfl rfl (by decide +kernel) (by decide +kernel) (fun an3_cells H locs hw hP hD hS => ?_)
  refine va_putF (D := G) (ci := 7) (v := .ref an3) (ty := (.object "LeapTables$Ints")) (C := RX8) (T := TX8) (N := 12) hx hb hts hiX8 tyX8 tyX8_ok nmX8 hown hK hP hD hS 0 rfl rfl 2 (by decide) (hts (.fieldLink RX8 27 "LeapTables$Search" "askers" "LLeapTables$Ints;") (List.mem_of_getElem? (i := 12) rfl)) (fun _ h9 => h9) rfl hin rfl (by decide +kernel) rfl rfl (Nat.le_of_ble_eq_true rfl) dX8_init_36 (fun H locs hP hD hS => ?_)
  refine lv_aload_n hx hb dX8_init_39 rfl (lv_at hl 0 rfl) ?_
  refine va_new (D := G) (C := RX6) (T := TX6) (N := 1) (ci := 5) (fs := [.null]) hx hb hts hiX6 tyX6 tyX6_ok hown (hts (.classLink RX8 18 RX6) (List.mem_of_getElem? (i := 8) rfl)) (hts (.instantiable RX6 1) (List.mem_of_getElem? (i := 9) rfl)) (hts (.initialized RX6) (List.mem_of_getElem? (i := 10) rfl)) hK hP hD hS hA rfl (fun j hj => match j, hj with | 0, _ => rfl | (n9 + 1), h9 => absurd h9 (by omega)) (Nat.le_of_ble_eq_true rfl) (Nat.le_of_ble_eq_true rfl) dX8_init_40 (fun an4 H hP hD hS => ?_)
  refine lv_dup hx hb dX8_init_43 rfl ?_
  refine lv_iconst (v := (4 : Int32)) hx hb dX8_init_44 (by decide) ?_
  obtain ⟨q3, hc_q3, hF⟩ := z_bind hF
  refine z_backC (wr := [(ah, .inr (7, [.ref an1, .ref an2, .ref an3, .null, .null, .null, .null, .int (0 : Int32), .int (0 : Int32), .int (0 : Int32), .int (0 : Int32), .int (0 : Int32)])), (an1, .inr (1, [.ref an1_codes, .int q0.2])), (an1_codes, .inr (5, [.ref an1_codes_cells])), (an1_codes_cells, .inl (tt 0, 5, .inl q0.1)), (an2, .inr (5, [.ref an2_cells])), (an2_cells, .inl (tt 0, 4, .inl q1)), (an3, .inr (5, [.ref an3_cells])), (an3_cells, .inl (tt 0, 4, .inl q2))]) (z_goI (wc := [(an4, .inr (5, [.null]))]) (As := [.int (4 : Int32)]) (rest := [.ref an4, .ref ah]) ⟨hx, hb, hml, hown, hts⟩ hK hN hO hP hD (mX6_initN4 l G tt H.size an4 q3 hc_q3) (cwI 1 hts gX8_init_X6_init rfl rfl rfl (hts (.initialized RX6) (List.mem_of_getElem? (i := 10) rfl)) (hts (.methodLink RX8 20 yX6_init) (List.mem_of_getElem? (i := 28) rfl)) (hts (.instanceMethod yX6_init) (List.mem_of_getElem? (i := 23) rfl)) rfl (by decide +kernel) ⟨Nat.le_of_ble_eq_true rfl, Nat.le_of_ble_eq_true rfl⟩) [8] rfl (by decide +kernel) rfl hl.1 rfl (Nat.le_of_ble_eq_true rfl) dX8_init_45 ⟨Nat.le_of_ble_eq_true rfl, Nat.le_of_ble_eq_true rfl⟩) hP hD hS hA [8] [0, 1, 2, 3, 4, 5, 6, 7] rfl rfl (by decide +kernel) (by decide +kernel) (fun an4_cells H locs hw hP hD hS => ?_)
  refine va_putF (D := G) (ci := 7) (v := .ref an4) (ty := (.object "LeapTables$Ints")) (C := RX8) (T := TX8) (N := 12) hx hb hts hiX8 tyX8 tyX8_ok nmX8 hown hK hP hD hS 0 rfl rfl 3 (by decide) (hts (.fieldLink RX8 30 "LeapTables$Search" "reached" "LLeapTables$Ints;") (List.mem_of_getElem? (i := 13) rfl)) (fun _ h9 => h9) rfl hin rfl (by decide +kernel) rfl rfl (Nat.le_of_ble_eq_true rfl) dX8_init_48 (fun H locs hP hD hS => ?_)
  refine lv_aload_n hx hb dX8_init_51 rfl (lv_at hl 0 rfl) ?_
  refine va_new (D := G) (C := RX6) (T := TX6) (N := 1) (ci := 5) (fs := [.null]) hx hb hts hiX6 tyX6 tyX6_ok hown (hts (.classLink RX8 18 RX6) (List.mem_of_getElem? (i := 8) rfl)) (hts (.instantiable RX6 1) (List.mem_of_getElem? (i := 9) rfl)) (hts (.initialized RX6) (List.mem_of_getElem? (i := 10) rfl)) hK hP hD hS hA rfl (fun j hj => match j, hj with | 0, _ => rfl | (n9 + 1), h9 => absurd h9 (by omega)) (Nat.le_of_ble_eq_true rfl) (Nat.le_of_ble_eq_true rfl) dX8_init_52 (fun an5 H hP hD hS => ?_)
  refine lv_dup hx hb dX8_init_55 rfl ?_
  refine lv_iconst (v := (4 : Int32)) hx hb dX8_init_56 (by decide) ?_
  obtain ⟨q4, hc_q4, hF⟩ := z_bind hF
  refine z_backC (wr := [(ah, .inr (7, [.ref an1, .ref an2, .ref an3, .ref an4, .null, .null, .null, .int (0 : Int32), .int (0 : Int32), .int (0 : Int32), .int (0 : Int32), .int (0 : Int32)])), (an1, .inr (1, [.ref an1_codes, .int q0.2])), (an1_codes, .inr (5, [.ref an1_codes_cells])), (an1_codes_cells, .inl (tt 0, 5, .inl q0.1)), (an2, .inr (5, [.ref an2_cells])), (an2_cells, .inl (tt 0, 4, .inl q1)), (an3, .inr (5, [.ref an3_cells])), (an3_cells, .inl (tt 0, 4, .inl q2)), (an4, .inr (5, [.ref an4_cells])), (an4_cells, .inl (tt 0, 4, .inl q3))]) (z_goI (wc := [(an5, .inr (5, [.null]))]) (As := [.int (4 : Int32)]) (rest := [.ref an5, .ref ah]) ⟨hx, hb, hml, hown, hts⟩ hK hN hO hP hD (mX6_initN4 l G tt H.size an5 q4 hc_q4) (cwI 1 hts gX8_init_X6_init rfl rfl rfl (hts (.initialized RX6) (List.mem_of_getElem? (i := 10) rfl)) (hts (.methodLink RX8 20 yX6_init) (List.mem_of_getElem? (i := 28) rfl)) (hts (.instanceMethod yX6_init) (List.mem_of_getElem? (i := 23) rfl)) rfl (by decide +kernel) ⟨Nat.le_of_ble_eq_true rfl, Nat.le_of_ble_eq_true rfl⟩) [10] rfl (by decide +kernel) rfl hl.1 rfl (Nat.le_of_ble_eq_true rfl) dX8_init_57 ⟨Nat.le_of_ble_eq_true rfl, Nat.le_of_ble_eq_true rfl⟩) hP hD hS hA [10] [0, 1, 2, 3, 4, 5, 6, 7, 8, 9] rfl rfl (by decide +kernel) (by decide +kernel) (fun an5_cells H locs hw hP hD hS => ?_)
  refine va_putF (D := G) (ci := 7) (v := .ref an5) (ty := (.object "LeapTables$Ints")) (C := RX8) (T := TX8) (N := 12) hx hb hts hiX8 tyX8 tyX8_ok nmX8 hown hK hP hD hS 0 rfl rfl 4 (by decide) (hts (.fieldLink RX8 33 "LeapTables$Search" "tellers" "LLeapTables$Ints;") (List.mem_of_getElem? (i := 14) rfl)) (fun _ h9 => h9) rfl hin rfl (by decide +kernel) rfl rfl (Nat.le_of_ble_eq_true rfl) dX8_init_60 (fun H locs hP hD hS => ?_)
  refine lv_aload_n hx hb dX8_init_63 rfl (lv_at hl 0 rfl) ?_
  refine va_new (D := G) (C := RX6) (T := TX6) (N := 1) (ci := 5) (fs := [.null]) hx hb hts hiX6 tyX6 tyX6_ok hown (hts (.classLink RX8 18 RX6) (List.mem_of_getElem? (i := 8) rfl)) (hts (.instantiable RX6 1) (List.mem_of_getElem? (i := 9) rfl)) (hts (.initialized RX6) (List.mem_of_getElem? (i := 10) rfl)) hK hP hD hS hA rfl (fun j hj => match j, hj with | 0, _ => rfl | (n9 + 1), h9 => absurd h9 (by omega)) (Nat.le_of_ble_eq_true rfl) (Nat.le_of_ble_eq_true rfl) dX8_init_64 (fun an6 H hP hD hS => ?_)
  refine lv_dup hx hb dX8_init_67 rfl ?_
  refine lv_iconst (v := (4 : Int32)) hx hb dX8_init_68 (by decide) ?_
  obtain ⟨q5, hc_q5, hF⟩ := z_bind hF
  refine z_backC (wr := [(ah, .inr (7, [.ref an1, .ref an2, .ref an3, .ref an4, .ref an5, .null, .null, .int (0 : Int32), .int (0 : Int32), .int (0 : Int32), .int (0 : Int32), .int (0 : Int32)])), (an1, .inr (1, [.ref an1_codes, .int q0.2])), (an1_codes, .inr (5, [.ref an1_codes_cells])), (an1_codes_cells, .inl (tt 0, 5, .inl q0.1)), (an2, .inr (5, [.ref an2_cells])), (an2_cells, .inl (tt 0, 4, .inl q1)), (an3, .inr (5, [.ref an3_cells])), (an3_cells, .inl (tt 0, 4, .inl q2)), (an4, .inr (5, [.ref an4_cells])), (an4_cells, .inl (tt 0, 4, .inl q3)), (an5, .inr (5, [.ref an5_cells])), (an5_cells, .inl (tt 0, 4, .inl q4))]) (z_goI (wc := [(an6, .inr (5, [.null]))]) (As := [.int (4 : Int32)]) (rest := [.ref an6, .ref ah]) ⟨hx, hb, hml, hown, hts⟩ hK hN hO hP hD (mX6_initN4 l G tt H.size an6 q5 hc_q5) (cwI 1 hts gX8_init_X6_init rfl rfl rfl (hts (.initialized RX6) (List.mem_of_getElem? (i := 10) rfl)) (hts (.methodLink RX8 20 yX6_init) (List.mem_of_getElem? (i := 28) rfl)) (hts (.instanceMethod yX6_init) (List.mem_of_getElem? (i := 23) rfl)) rfl (by decide +kernel) ⟨Nat.le_of_ble_eq_true rfl, Nat.le_of_ble_eq_true rfl⟩) [12] rfl (by decide +kernel) rfl hl.1 rfl (Nat.le_of_ble_eq_true rfl) dX8_init_69 ⟨Nat.le_of_ble_eq_true rfl, Nat.le_of_ble_eq_true rfl⟩) hP hD hS hA [12] [0, 1, 2, 3, 4, 5, 6, 7, 8, 9, 10, 11] rfl rfl (by decide +kernel) (by decide +kernel) (fun an6_cells H locs hw hP hD hS => ?_)
  refine va_putF (D := G) (ci := 7) (v := .ref an6) (ty := (.object "LeapTables$Ints")) (C := RX8) (T := TX8) (N := 12) hx hb hts hiX8 tyX8 tyX8_ok nmX8 hown hK hP hD hS 0 rfl rfl 5 (by decide) (hts (.fieldLink RX8 36 "LeapTables$Search" "turns" "LLeapTables$Ints;") (List.mem_of_getElem? (i := 15) rfl)) (fun _ h9 => h9) rfl hin rfl (by decide +kernel) rfl rfl (Nat.le_of_ble_eq_true rfl) dX8_init_72 (fun H locs hP hD hS => ?_)
  refine lv_aload_n hx hb dX8_init_75 rfl (lv_at hl 0 rfl) ?_
  refine va_new (D := G) (C := RX6) (T := TX6) (N := 1) (ci := 5) (fs := [.null]) hx hb hts hiX6 tyX6 tyX6_ok hown (hts (.classLink RX8 18 RX6) (List.mem_of_getElem? (i := 8) rfl)) (hts (.instantiable RX6 1) (List.mem_of_getElem? (i := 9) rfl)) (hts (.initialized RX6) (List.mem_of_getElem? (i := 10) rfl)) hK hP hD hS hA rfl (fun j hj => match j, hj with | 0, _ => rfl | (n9 + 1), h9 => absurd h9 (by omega)) (Nat.le_of_ble_eq_true rfl) (Nat.le_of_ble_eq_true rfl) dX8_init_76 (fun an7 H hP hD hS => ?_)
  refine lv_dup hx hb dX8_init_79 rfl ?_
  refine lv_iconst (v := (4 : Int32)) hx hb dX8_init_80 (by decide) ?_
  obtain ⟨q6, hc_q6, hF⟩ := z_bind hF
  refine z_backC (wr := [(ah, .inr (7, [.ref an1, .ref an2, .ref an3, .ref an4, .ref an5, .ref an6, .null, .int (0 : Int32), .int (0 : Int32), .int (0 : Int32), .int (0 : Int32), .int (0 : Int32)])), (an1, .inr (1, [.ref an1_codes, .int q0.2])), (an1_codes, .inr (5, [.ref an1_codes_cells])), (an1_codes_cells, .inl (tt 0, 5, .inl q0.1)), (an2, .inr (5, [.ref an2_cells])), (an2_cells, .inl (tt 0, 4, .inl q1)), (an3, .inr (5, [.ref an3_cells])), (an3_cells, .inl (tt 0, 4, .inl q2)), (an4, .inr (5, [.ref an4_cells])), (an4_cells, .inl (tt 0, 4, .inl q3)), (an5, .inr (5, [.ref an5_cells])), (an5_cells, .inl (tt 0, 4, .inl q4)), (an6, .inr (5, [.ref an6_cells])), (an6_cells, .inl (tt 0, 4, .inl q5))]) (z_goI (wc := [(an7, .inr (5, [.null]))]) (As := [.int (4 : Int32)]) (rest := [.ref an7, .ref ah]) ⟨hx, hb, hml, hown, hts⟩ hK hN hO hP hD (mX6_initN4 l G tt H.size an7 q6 hc_q6) (cwI 1 hts gX8_init_X6_init rfl rfl rfl (hts (.initialized RX6) (List.mem_of_getElem? (i := 10) rfl)) (hts (.methodLink RX8 20 yX6_init) (List.mem_of_getElem? (i := 28) rfl)) (hts (.instanceMethod yX6_init) (List.mem_of_getElem? (i := 23) rfl)) rfl (by decide +kernel) ⟨Nat.le_of_ble_eq_true rfl, Nat.le_of_ble_eq_true rfl⟩) [14] rfl (by decide +kernel) rfl hl.1 rfl (Nat.le_of_ble_eq_true rfl) dX8_init_81 ⟨Nat.le_of_ble_eq_true rfl, Nat.le_of_ble_eq_true rfl⟩) hP hD hS hA [14] [0, 1, 2, 3, 4, 5, 6, 7, 8, 9, 10, 11, 12, 13] rfl rfl (by decide +kernel) (by decide +kernel) (fun an7_cells H locs hw hP hD hS => ?_)
  refine va_putF (D := G) (ci := 7) (v := .ref an7) (ty := (.object "LeapTables$Ints")) (C := RX8) (T := TX8) (N := 12) hx hb hts hiX8 tyX8 tyX8_ok nmX8 hown hK hP hD hS 0 rfl rfl 6 (by decide) (hts (.fieldLink RX8 39 "LeapTables$Search" "keys" "LLeapTables$Ints;") (List.mem_of_getElem? (i := 16) rfl)) (fun _ h9 => h9) rfl hin rfl (by decide +kernel) rfl rfl (Nat.le_of_ble_eq_true rfl) dX8_init_84 (fun H locs hP hD hS => ?_)
  have hPD : zPD G A [(ah, .inr (7, [.ref an1, .ref an2, .ref an3, .ref an4, .ref an5, .ref an6, .ref an7, .int (0 : Int32), .int (0 : Int32), .int (0 : Int32), .int (0 : Int32), .int (0 : Int32)])), (an1, .inr (1, [.ref an1_codes, .int q0.2])), (an1_codes, .inr (5, [.ref an1_codes_cells])), (an1_codes_cells, .inl (tt 0, 5, .inl q0.1)), (an2, .inr (5, [.ref an2_cells])), (an2_cells, .inl (tt 0, 4, .inl q1)), (an3, .inr (5, [.ref an3_cells])), (an3_cells, .inl (tt 0, 4, .inl q2)), (an4, .inr (5, [.ref an4_cells])), (an4_cells, .inl (tt 0, 4, .inl q3)), (an5, .inr (5, [.ref an5_cells])), (an5_cells, .inl (tt 0, 4, .inl q4)), (an6, .inr (5, [.ref an6_cells])), (an6_cells, .inl (tt 0, 4, .inl q5)), (an7, .inr (5, [.ref an7_cells])), (an7_cells, .inl (tt 0, 4, .inl q6))] H := ⟨hP.sub [0, 1, 2, 3, 4, 5, 6, 7, 8, 9, 10, 11, 12, 13, 14, 15] rfl, hD.sub [0, 1, 2, 3, 4, 5, 6, 7, 8, 9, 10, 11, 12, 13, 14, 15] (by decide +kernel) rfl⟩
  have hP9 := hPD.1
  have hD9 := hPD.2
  have hR := Option.some.inj hF
  subst hR
  exact W.vret hx hb hr (fun t ht hW => ⟨⟨(an1, an1_codes, an1_codes_cells, an2, an2_cells, an3, an3_cells, an4, an4_cells, an5, an5_cells, an6, an6_cells, an7, an7_cells), rfl, trivial, by rw [ht]; exact hP9, va_K.moved hW.alike hK, hD9⟩, hS.F ht⟩) hS.2.2 dX8_init_87

set_option maxHeartbeats 16000000 in
set_option maxRecDepth 100000 in
theorem mX0_init (l : Launch) (G : va_G) (tt : Nat → ClassId) (sz : Nat) (ah : Nat) (RR : (Nat → Int32) × Int32 × (Nat → Int32) × (Nat → Int32) × (Nat → Int32) × (Nat → Int32) × (Nat → Int32) × (Nat → Int32) × Int32 × Int32 × Int32 × Int32 × Int32 × (Nat → Int64) × Int32 × Int32) (hF : fX0_init = some RR) : Met l yX0_init wsX0_init ({ frames := 4, cells := 17, slots := 114, locals := 84 } : Room) (zPreI G (zTy tt) [.ref ah] sz [(ah, .inr (0, [.null, .null, .int (0 : Int32), .int (0 : Int32)]))]) (va_Qv (fun _ : Nat × Nat × Nat × Nat × Nat × Nat × Nat × Nat × Nat × Nat × Nat × Nat × Nat × Nat × Nat × Nat × Nat => True) (zAt G (zTy tt) (va_A [(ah, .inr (0, [.null, .null, .int (0 : Int32), .int (0 : Int32)]))] sz) (fun u : Nat × Nat × Nat × Nat × Nat × Nat × Nat × Nat × Nat × Nat × Nat × Nat × Nat × Nat × Nat × Nat × Nat => [(ah, .inr (0, [.ref u.1, .ref u.2.2.2.2.2.2.2.2.2.2.2.2.2.2.2.2, .int RR.2.2.2.2.2.2.2.2.2.2.2.2.2.2.1, .int RR.2.2.2.2.2.2.2.2.2.2.2.2.2.2.2])), (u.1, .inr (7, [.ref u.2.1, .ref u.2.2.2.2.1, .ref u.2.2.2.2.2.2.1, .ref u.2.2.2.2.2.2.2.2.1, .ref u.2.2.2.2.2.2.2.2.2.2.1, .ref u.2.2.2.2.2.2.2.2.2.2.2.2.1, .ref u.2.2.2.2.2.2.2.2.2.2.2.2.2.2.1, .int RR.2.2.2.2.2.2.2.2.1, .int RR.2.2.2.2.2.2.2.2.2.1, .int RR.2.2.2.2.2.2.2.2.2.2.1, .int RR.2.2.2.2.2.2.2.2.2.2.2.1, .int RR.2.2.2.2.2.2.2.2.2.2.2.2.1])), (u.2.1, .inr (1, [.ref u.2.2.1, .int RR.2.1])), (u.2.2.1, .inr (5, [.ref u.2.2.2.1])), (u.2.2.2.1, .inl (tt 0, 5, .inl RR.1)), (u.2.2.2.2.1, .inr (5, [.ref u.2.2.2.2.2.1])), (u.2.2.2.2.2.1, .inl (tt 0, 4, .inl RR.2.2.1)), (u.2.2.2.2.2.2.1, .inr (5, [.ref u.2.2.2.2.2.2.2.1])), (u.2.2.2.2.2.2.2.1, .inl (tt 0, 4, .inl RR.2.2.2.1)), (u.2.2.2.2.2.2.2.2.1, .inr (5, [.ref u.2.2.2.2.2.2.2.2.2.1])), (u.2.2.2.2.2.2.2.2.2.1, .inl (tt 0, 4, .inl RR.2.2.2.2.1)), (u.2.2.2.2.2.2.2.2.2.2.1, .inr (5, [.ref u.2.2.2.2.2.2.2.2.2.2.2.1])), (u.2.2.2.2.2.2.2.2.2.2.2.1, .inl (tt 0, 4, .inl RR.2.2.2.2.2.1)), (u.2.2.2.2.2.2.2.2.2.2.2.2.1, .inr (5, [.ref u.2.2.2.2.2.2.2.2.2.2.2.2.2.1])), (u.2.2.2.2.2.2.2.2.2.2.2.2.2.1, .inl (tt 0, 4, .inl RR.2.2.2.2.2.2.1)), (u.2.2.2.2.2.2.2.2.2.2.2.2.2.2.1, .inr (5, [.ref u.2.2.2.2.2.2.2.2.2.2.2.2.2.2.2.1])), (u.2.2.2.2.2.2.2.2.2.2.2.2.2.2.2.1, .inl (tt 0, 4, .inl RR.2.2.2.2.2.2.2.1)), (u.2.2.2.2.2.2.2.2.2.2.2.2.2.2.2.2, .inl (tt 1, 64, .inr (.inl RR.2.2.2.2.2.2.2.2.2.2.2.2.2.1)))])) (va_A [(ah, .inr (0, [.null, .null, .int (0 : Int32), .int (0 : Int32)]))] sz)) 17 114 (va_A [(ah, .inr (0, [.null, .null, .int (0 : Int32), .int (0 : Int32)]))] sz) := by
  refine Met.ofW (cc := cX0_init) (maxL := 1) (ret := none) (by decide +kernel) rfl ?_
  intro p e s m args below meth c s₁ B hml hv
  obtain ⟨rfl, hsz, hP, hK, hD0, hN, hO⟩ := hv
  have hx := B.exec
  have hb := B.bytes
  have hr := B.returns
  have hts := atoms_spec (ws := wsX0_init) B.pre
  have hin : meth.name = "<init>" := (name_of_methodNamed B.named B.method).1
  have hown : s.vm.findClass RX0 = some m.cls := findClass_of_methodNamed B.named
  have hlocks := B.notSynchronized
  subst hsz
  have hD := hD0.self (sz := s.heap.size)
  generalize hAe : va_A [(ah, .inr (0, [.null, .null, .int (0 : Int32), .int (0 : Int32)]))] s.heap.size = A at hD ⊢
  have hA : ∀ q : Nat, s.heap.size ≤ q → A q := fun q h => by rw [← hAe]; exact Or.inr h
  have hP : va_P G vwCl [(ah, .inr (0, [.null, .null, .int (0 : Int32), .int (0 : Int32)]))] s.heap := hP
  have hiX0 : ∀ w ∈ wsX00, w ∈ wsX0_init := by decide +kernel
  have hiX8 : ∀ w ∈ wsX80, w ∈ wsX0_init := by decide +kernel
  have hl := lv_entry ([.ref ah]) (n := 1) (Nat.le_of_ble_eq_true rfl)
  rw [lg_entry_eq]
  generalize (lg_sl ([.ref ah]) ++ List.replicate (1 - (lg_sl ([.ref ah])).length) Slot.unset).toArray = ls at hl ⊢
  have hl : lv_has ls 1 [(0, .ref ah)] := hl
  obtain ⟨H, hHe⟩ : ∃ H : Heap, s.heap = H := ⟨_, rfl⟩
  have hS : va_S A s.heap H [] := by rw [← hHe]; exact va_S.rf
  rw [hHe] at hP ⊢
  unfold fX0_init at hF
  refine lv_aload_n hx hb dX0_init_0 rfl (lv_at hl 0 rfl) ?_
  refine z_objInit hx hb hown (hts (.methodLink RX0 3 objectInit) (List.mem_of_getElem? (i := 1) rfl)) (hts (.instanceMethod objectInit) (List.mem_of_getElem? (i := 2) rfl)) (hts (.code objectInit ⟨#[0xb1]⟩ 1 none) (List.mem_of_getElem? (i := 3) rfl)) (hl.1.trans hml.symm) dX0_init_1 (Nat.le_of_ble_eq_true rfl) (Nat.le_of_ble_eq_true rfl) ?_
  refine lv_aload_n hx hb dX0_init_4 rfl (lv_at hl 0 rfl) ?_
  refine va_new (D := G) (C := RX8) (T := TX8) (N := 12) (ci := 7) (fs := [.null, .null, .null, .null, .null, .null, .null, .int 0, .int 0, .int 0, .int 0, .int 0]) hx hb hts hiX8 tyX8 tyX8_ok hown (hts (.classLink RX0 9 RX8) (List.mem_of_getElem? (i := 4) rfl)) (hts (.instantiable RX8 12) (List.mem_of_getElem? (i := 5) rfl)) (hts (.initialized RX8) (List.mem_of_getElem? (i := 6) rfl)) hK hP hD hS hA rfl (fun j hj => match j, hj with | 0, _ => rfl | 1, _ => rfl | 2, _ => rfl | 3, _ => rfl | 4, _ => rfl | 5, _ => rfl | 6, _ => rfl | 7, _ => rfl | 8, _ => rfl | 9, _ => rfl | 10, _ => rfl | 11, _ => rfl | (n9 + 12), h9 => absurd h9 (by omega)) (Nat.le_of_ble_eq_true rfl) (Nat.le_of_ble_eq_true rfl) dX0_init_5 (fun an1 H hP hD hS => ?_)
  refine lv_dup hx hb dX0_init_8 rfl ?_
  obtain ⟨q0, hc_q0, hF⟩ := z_bind hF
  refine z_backC (wr := [(ah, .inr (0, [.null, .null, .int (0 : Int32), .int (0 : Int32)]))]) (z_goIN (wc := [(an1, .inr (7, [.null, .null, .null, .null, .null, .null, .null, .int (0 : Int32), .int (0 : Int32), .int (0 : Int32), .int (0 : Int32), .int (0 : Int32)]))]) (As := []) (rest := [.ref an1, .ref ah]) (host := "LeapTables") ⟨hx, hb, hml, hown, hts⟩ hK hN hO hP hD (mX8_init l G tt H.size an1 q0 hc_q0) ⟨va_cnB 0 hts gX0_init_X8_init_n11 rfl rfl rfl (hN.2 _ (List.mem_of_getElem? (i := 5) rfl)) (hts (.initialized RX8) (List.mem_of_getElem? (i := 6) rfl)) (by decide +kernel) ⟨Nat.le_of_ble_eq_true rfl, Nat.le_of_ble_eq_true rfl⟩, rfl, hts (.instanceMethod yX8_init) (List.mem_of_getElem? (i := 10) rfl)⟩ [1] rfl (by decide +kernel) rfl hl.1 rfl (Nat.le_of_ble_eq_true rfl) dX0_init_9 ⟨Nat.le_of_ble_eq_true rfl, Nat.le_of_ble_eq_true rfl⟩) hP hD hS hA [1] [0] rfl rfl (by decide +kernel) (by decide +kernel) (fun u H locs hw hP hD hS => ?_)
  obtain ⟨an1_atoms, an1_atoms_codes, an1_atoms_codes_cells, an1_sequence, an1_sequence_cells, an1_askers, an1_askers_cells, an1_reached, an1_reached_cells, an1_tellers, an1_tellers_cells, an1_turns, an1_turns_cells, an1_keys, an1_keys_cells⟩ := u
  refine va_putF (D := G) (ci := 0) (v := .ref an1) (ty := (.object "LeapTables$Search")) (C := RX0) (T := TX0) (N := 4) hx hb hts hiX0 tyX0 tyX0_ok nmX0 hown hK hP hD hS 0 rfl rfl 0 (by decide) (hts (.fieldLink RX0 12 "LeapTables$Answers" "search" "LLeapTables$Search;") (List.mem_of_getElem? (i := 7) rfl)) (fun _ h9 => h9) rfl hin rfl (by decide +kernel) rfl rfl (Nat.le_of_ble_eq_true rfl) dX0_init_12 (fun H locs hP hD hS => ?_)
  refine lv_aload_n hx hb dX0_init_15 rfl (lv_at hl 0 rfl) ?_
  refine lv_bipush (v := (64 : Int32)) hx hb dX0_init_16 (by decide) ?_
  refine z_newa (atype := .long) (ty := .long) (N' := 64) (a0 := (64, .inr (.inl (fun _ => (0 : Int64))))) hx hb (hts (.arrayClass .long) (List.mem_of_getElem? (i := 8) rfl)) rfl hK hP hD hS hA 1 rfl (fun _ => rfl) (by decide) (by decide +kernel) (Nat.le_of_ble_eq_true rfl) (Nat.le_of_ble_eq_true rfl) (Nat.le_of_ble_eq_true rfl) dX0_init_18 (fun an2 H hP hD hS => ?_)
  refine va_putF (D := G) (ci := 0) (v := .ref an2) (ty := (.array .long)) (C := RX0) (T := TX0) (N := 4) hx hb hts hiX0 tyX0 tyX0_ok nmX0 hown hK hP hD hS 0 rfl rfl 1 (by decide) (hts (.fieldLink RX0 18 "LeapTables$Answers" "words" "[J") (List.mem_of_getElem? (i := 9) rfl)) (fun _ h9 => h9) rfl hin rfl (by decide +kernel) rfl rfl (Nat.le_of_ble_eq_true rfl) dX0_init_20 (fun H locs hP hD hS => ?_)
  have hPD : zPD G A [(ah, .inr (0, [.ref an1, .ref an2, .int (0 : Int32), .int (0 : Int32)])), (an1, .inr (7, [.ref an1_atoms, .ref an1_sequence, .ref an1_askers, .ref an1_reached, .ref an1_tellers, .ref an1_turns, .ref an1_keys, .int q0.2.2.2.2.2.2.2.2.1, .int q0.2.2.2.2.2.2.2.2.2.1, .int q0.2.2.2.2.2.2.2.2.2.2.1, .int q0.2.2.2.2.2.2.2.2.2.2.2.1, .int q0.2.2.2.2.2.2.2.2.2.2.2.2])), (an1_atoms, .inr (1, [.ref an1_atoms_codes, .int q0.2.1])), (an1_atoms_codes, .inr (5, [.ref an1_atoms_codes_cells])), (an1_atoms_codes_cells, .inl (tt 0, 5, .inl q0.1)), (an1_sequence, .inr (5, [.ref an1_sequence_cells])), (an1_sequence_cells, .inl (tt 0, 4, .inl q0.2.2.1)), (an1_askers, .inr (5, [.ref an1_askers_cells])), (an1_askers_cells, .inl (tt 0, 4, .inl q0.2.2.2.1)), (an1_reached, .inr (5, [.ref an1_reached_cells])), (an1_reached_cells, .inl (tt 0, 4, .inl q0.2.2.2.2.1)), (an1_tellers, .inr (5, [.ref an1_tellers_cells])), (an1_tellers_cells, .inl (tt 0, 4, .inl q0.2.2.2.2.2.1)), (an1_turns, .inr (5, [.ref an1_turns_cells])), (an1_turns_cells, .inl (tt 0, 4, .inl q0.2.2.2.2.2.2.1)), (an1_keys, .inr (5, [.ref an1_keys_cells])), (an1_keys_cells, .inl (tt 0, 4, .inl q0.2.2.2.2.2.2.2.1)), (an2, .inl (tt 1, 64, .inr (.inl (fun _ => (0 : Int64)))))] H := ⟨hP.sub [0, 1, 2, 3, 4, 5, 6, 7, 8, 9, 10, 11, 12, 13, 14, 15, 16, 17] rfl, hD.sub [0, 1, 2, 3, 4, 5, 6, 7, 8, 9, 10, 11, 12, 13, 14, 15, 16, 17] (by decide +kernel) rfl⟩
  have hP9 := hPD.1
  have hD9 := hPD.2
  have hR := Option.some.inj hF
  subst hR
  exact W.vret hx hb hr (fun t ht hW => ⟨⟨(an1, an1_atoms, an1_atoms_codes, an1_atoms_codes_cells, an1_sequence, an1_sequence_cells, an1_askers, an1_askers_cells, an1_reached, an1_reached_cells, an1_tellers, an1_tellers_cells, an1_turns, an1_turns_cells, an1_keys, an1_keys_cells, an2), rfl, trivial, by rw [ht]; exact hP9, va_K.moved hW.alike hK, hD9⟩, hS.F ht⟩) hS.2.2 dX0_init_23

set_option maxHeartbeats 16000000 in
set_option maxRecDepth 100000 in
theorem mX3_init (l : Launch) (G : va_G) (tt : Nat → ClassId) (sz : Nat) (ah : Nat) (RR : (Nat → Int32) × Int32 × Int64) (hF : fX3_init = some RR) : Met l yX3_init wsX3_init ({ frames := 2, cells := 2, slots := 6, locals := 44 } : Room) (zPreI G (zTy tt) [.ref ah] sz [(ah, .inr (2, [.null, .int (0 : Int32), .long (0 : Int64)]))]) (va_Qv (fun _ : Nat × Nat => True) (zAt G (zTy tt) (va_A [(ah, .inr (2, [.null, .int (0 : Int32), .long (0 : Int64)]))] sz) (fun u : Nat × Nat => [(ah, .inr (2, [.ref u.1, .int RR.2.1, .long RR.2.2])), (u.1, .inr (5, [.ref u.2])), (u.2, .inl (tt 0, 5, .inl RR.1))])) (va_A [(ah, .inr (2, [.null, .int (0 : Int32), .long (0 : Int64)]))] sz)) 2 6 (va_A [(ah, .inr (2, [.null, .int (0 : Int32), .long (0 : Int64)]))] sz) := by
  refine Met.ofW (cc := cX3_init) (maxL := 1) (ret := none) (by decide +kernel) rfl ?_
  intro p e s m args below meth c s₁ B hml hv
  obtain ⟨rfl, hsz, hP, hK, hD0, hN, hO⟩ := hv
  have hx := B.exec
  have hb := B.bytes
  have hr := B.returns
  have hts := atoms_spec (ws := wsX3_init) B.pre
  have hin : meth.name = "<init>" := (name_of_methodNamed B.named B.method).1
  have hown : s.vm.findClass RX3 = some m.cls := findClass_of_methodNamed B.named
  have hlocks := B.notSynchronized
  subst hsz
  have hD := hD0.self (sz := s.heap.size)
  generalize hAe : va_A [(ah, .inr (2, [.null, .int (0 : Int32), .long (0 : Int64)]))] s.heap.size = A at hD ⊢
  have hA : ∀ q : Nat, s.heap.size ≤ q → A q := fun q h => by rw [← hAe]; exact Or.inr h
  have hP : va_P G vwCl [(ah, .inr (2, [.null, .int (0 : Int32), .long (0 : Int64)]))] s.heap := hP
  have hiX3 : ∀ w ∈ wsX30, w ∈ wsX3_init := by decide +kernel
  have hiX6 : ∀ w ∈ wsX60, w ∈ wsX3_init := by decide +kernel
  have hl := lv_entry ([.ref ah]) (n := 1) (Nat.le_of_ble_eq_true rfl)
  rw [lg_entry_eq]
  generalize (lg_sl ([.ref ah]) ++ List.replicate (1 - (lg_sl ([.ref ah])).length) Slot.unset).toArray = ls at hl ⊢
  have hl : lv_has ls 1 [(0, .ref ah)] := hl
  obtain ⟨H, hHe⟩ : ∃ H : Heap, s.heap = H := ⟨_, rfl⟩
  have hS : va_S A s.heap H [] := by rw [← hHe]; exact va_S.rf
  rw [hHe] at hP ⊢
  unfold fX3_init at hF
  refine lv_aload_n hx hb dX3_init_0 rfl (lv_at hl 0 rfl) ?_
  refine z_objInit hx hb hown (hts (.methodLink RX3 3 objectInit) (List.mem_of_getElem? (i := 1) rfl)) (hts (.instanceMethod objectInit) (List.mem_of_getElem? (i := 2) rfl)) (hts (.code objectInit ⟨#[0xb1]⟩ 1 none) (List.mem_of_getElem? (i := 3) rfl)) (hl.1.trans hml.symm) dX3_init_1 (Nat.le_of_ble_eq_true rfl) (Nat.le_of_ble_eq_true rfl) ?_
  refine lv_aload_n hx hb dX3_init_4 rfl (lv_at hl 0 rfl) ?_
  refine va_new (D := G) (C := RX6) (T := TX6) (N := 1) (ci := 5) (fs := [.null]) hx hb hts hiX6 tyX6 tyX6_ok hown (hts (.classLink RX3 9 RX6) (List.mem_of_getElem? (i := 4) rfl)) (hts (.instantiable RX6 1) (List.mem_of_getElem? (i := 5) rfl)) (hts (.initialized RX6) (List.mem_of_getElem? (i := 6) rfl)) hK hP hD hS hA rfl (fun j hj => match j, hj with | 0, _ => rfl | (n9 + 1), h9 => absurd h9 (by omega)) (Nat.le_of_ble_eq_true rfl) (Nat.le_of_ble_eq_true rfl) dX3_init_5 (fun an1 H hP hD hS => ?_)
  refine lv_dup hx hb dX3_init_8 rfl ?_
  refine lv_iconst (v := (5 : Int32)) hx hb dX3_init_9 (by decide) ?_
  obtain ⟨q0, hc_q0, hF⟩ := z_bind hF
  refine z_backC (wr := [(ah, .inr (2, [.null, .int (0 : Int32), .long (0 : Int64)]))]) (z_goI (wc := [(an1, .inr (5, [.null]))]) (As := [.int (5 : Int32)]) (rest := [.ref an1, .ref ah]) ⟨hx, hb, hml, hown, hts⟩ hK hN hO hP hD (mX6_initN5 l G tt H.size an1 q0 hc_q0) (cwI 1 hts gX3_init_X6_init rfl rfl rfl (hts (.initialized RX6) (List.mem_of_getElem? (i := 6) rfl)) (hts (.methodLink RX3 11 yX6_init) (List.mem_of_getElem? (i := 8) rfl)) (hts (.instanceMethod yX6_init) (List.mem_of_getElem? (i := 9) rfl)) rfl (by decide +kernel) ⟨Nat.le_of_ble_eq_true rfl, Nat.le_of_ble_eq_true rfl⟩) [1] rfl (by decide +kernel) rfl hl.1 rfl (Nat.le_of_ble_eq_true rfl) dX3_init_10 ⟨Nat.le_of_ble_eq_true rfl, Nat.le_of_ble_eq_true rfl⟩) hP hD hS hA [1] [0] rfl rfl (by decide +kernel) (by decide +kernel) (fun an1_cells H locs hw hP hD hS => ?_)
  refine va_putF (D := G) (ci := 2) (v := .ref an1) (ty := (.object "LeapTables$Ints")) (C := RX3) (T := TX3) (N := 3) hx hb hts hiX3 tyX3 tyX3_ok nmX3 hown hK hP hD hS 0 rfl rfl 0 (by decide) (hts (.fieldLink RX3 14 "LeapTables$Cover" "sizes" "LLeapTables$Ints;") (List.mem_of_getElem? (i := 7) rfl)) (fun _ h9 => h9) rfl hin rfl (by decide +kernel) rfl rfl (Nat.le_of_ble_eq_true rfl) dX3_init_13 (fun H locs hP hD hS => ?_)
  have hPD : zPD G A [(ah, .inr (2, [.ref an1, .int (0 : Int32), .long (0 : Int64)])), (an1, .inr (5, [.ref an1_cells])), (an1_cells, .inl (tt 0, 5, .inl q0))] H := ⟨hP.sub [0, 1, 2] rfl, hD.sub [0, 1, 2] (by decide +kernel) rfl⟩
  have hP9 := hPD.1
  have hD9 := hPD.2
  have hR := Option.some.inj hF
  subst hR
  exact W.vret hx hb hr (fun t ht hW => ⟨⟨(an1, an1_cells), rfl, trivial, by rw [ht]; exact hP9, va_K.moved hW.alike hK, hD9⟩, hS.F ht⟩) hS.2.2 dX3_init_16

set_option maxHeartbeats 16000000 in
set_option maxRecDepth 100000 in
theorem mX10_init (l : Launch) (G : va_G) (tt : Nat → ClassId) (sz : Nat) (ah : Nat) (RR : (Nat → Int32)) (hF : fX10_init = some RR) : Met l yX10_init wsX10_init ({ frames := 2, cells := 2, slots := 6, locals := 44 } : Room) (zPreI G (zTy tt) [.ref ah] sz [(ah, .inr (9, [.null]))]) (va_Qv (fun _ : Nat × Nat => True) (zAt G (zTy tt) (va_A [(ah, .inr (9, [.null]))] sz) (fun u : Nat × Nat => [(ah, .inr (9, [.ref u.1])), (u.1, .inr (5, [.ref u.2])), (u.2, .inl (tt 0, 5, .inl RR))])) (va_A [(ah, .inr (9, [.null]))] sz)) 2 6 (va_A [(ah, .inr (9, [.null]))] sz) := by
  refine Met.ofW (cc := cX10_init) (maxL := 1) (ret := none) (by decide +kernel) rfl ?_
  intro p e s m args below meth c s₁ B hml hv
  obtain ⟨rfl, hsz, hP, hK, hD0, hN, hO⟩ := hv
  have hx := B.exec
  have hb := B.bytes
  have hr := B.returns
  have hts := atoms_spec (ws := wsX10_init) B.pre
  have hin : meth.name = "<init>" := (name_of_methodNamed B.named B.method).1
  have hown : s.vm.findClass RX10 = some m.cls := findClass_of_methodNamed B.named
  have hlocks := B.notSynchronized
  subst hsz
  have hD := hD0.self (sz := s.heap.size)
  generalize hAe : va_A [(ah, .inr (9, [.null]))] s.heap.size = A at hD ⊢
  have hA : ∀ q : Nat, s.heap.size ≤ q → A q := fun q h => by rw [← hAe]; exact Or.inr h
  have hP : va_P G vwCl [(ah, .inr (9, [.null]))] s.heap := hP
  have hiX10 : ∀ w ∈ wsX100, w ∈ wsX10_init := by decide +kernel
  have hiX6 : ∀ w ∈ wsX60, w ∈ wsX10_init := by decide +kernel
  have hl := lv_entry ([.ref ah]) (n := 1) (Nat.le_of_ble_eq_true rfl)
  rw [lg_entry_eq]
  generalize (lg_sl ([.ref ah]) ++ List.replicate (1 - (lg_sl ([.ref ah])).length) Slot.unset).toArray = ls at hl ⊢
  have hl : lv_has ls 1 [(0, .ref ah)] := hl
  obtain ⟨H, hHe⟩ : ∃ H : Heap, s.heap = H := ⟨_, rfl⟩
  have hS : va_S A s.heap H [] := by rw [← hHe]; exact va_S.rf
  rw [hHe] at hP ⊢
  unfold fX10_init at hF
  refine lv_aload_n hx hb dX10_init_0 rfl (lv_at hl 0 rfl) ?_
  refine z_objInit hx hb hown (hts (.methodLink RX10 3 objectInit) (List.mem_of_getElem? (i := 1) rfl)) (hts (.instanceMethod objectInit) (List.mem_of_getElem? (i := 2) rfl)) (hts (.code objectInit ⟨#[0xb1]⟩ 1 none) (List.mem_of_getElem? (i := 3) rfl)) (hl.1.trans hml.symm) dX10_init_1 (Nat.le_of_ble_eq_true rfl) (Nat.le_of_ble_eq_true rfl) ?_
  refine lv_aload_n hx hb dX10_init_4 rfl (lv_at hl 0 rfl) ?_
  refine va_new (D := G) (C := RX6) (T := TX6) (N := 1) (ci := 5) (fs := [.null]) hx hb hts hiX6 tyX6 tyX6_ok hown (hts (.classLink RX10 9 RX6) (List.mem_of_getElem? (i := 4) rfl)) (hts (.instantiable RX6 1) (List.mem_of_getElem? (i := 5) rfl)) (hts (.initialized RX6) (List.mem_of_getElem? (i := 6) rfl)) hK hP hD hS hA rfl (fun j hj => match j, hj with | 0, _ => rfl | (n9 + 1), h9 => absurd h9 (by omega)) (Nat.le_of_ble_eq_true rfl) (Nat.le_of_ble_eq_true rfl) dX10_init_5 (fun an1 H hP hD hS => ?_)
  refine lv_dup hx hb dX10_init_8 rfl ?_
  refine lv_iconst (v := (5 : Int32)) hx hb dX10_init_9 (by decide) ?_
  obtain ⟨q0, hc_q0, hF⟩ := z_bind hF
  refine z_backC (wr := [(ah, .inr (9, [.null]))]) (z_goI (wc := [(an1, .inr (5, [.null]))]) (As := [.int (5 : Int32)]) (rest := [.ref an1, .ref ah]) ⟨hx, hb, hml, hown, hts⟩ hK hN hO hP hD (mX6_initN5 l G tt H.size an1 q0 hc_q0) (cwI 1 hts gX10_init_X6_init rfl rfl rfl (hts (.initialized RX6) (List.mem_of_getElem? (i := 6) rfl)) (hts (.methodLink RX10 11 yX6_init) (List.mem_of_getElem? (i := 8) rfl)) (hts (.instanceMethod yX6_init) (List.mem_of_getElem? (i := 9) rfl)) rfl (by decide +kernel) ⟨Nat.le_of_ble_eq_true rfl, Nat.le_of_ble_eq_true rfl⟩) [1] rfl (by decide +kernel) rfl hl.1 rfl (Nat.le_of_ble_eq_true rfl) dX10_init_10 ⟨Nat.le_of_ble_eq_true rfl, Nat.le_of_ble_eq_true rfl⟩) hP hD hS hA [1] [0] rfl rfl (by decide +kernel) (by decide +kernel) (fun an1_cells H locs hw hP hD hS => ?_)
  refine va_putF (D := G) (ci := 9) (v := .ref an1) (ty := (.object "LeapTables$Ints")) (C := RX10) (T := TX10) (N := 1) hx hb hts hiX10 tyX10 tyX10_ok nmX10 hown hK hP hD hS 0 rfl rfl 0 (by decide) (hts (.fieldLink RX10 14 "LeapTables$Tree" "sets" "LLeapTables$Ints;") (List.mem_of_getElem? (i := 7) rfl)) (fun _ h9 => h9) rfl hin rfl (by decide +kernel) rfl rfl (Nat.le_of_ble_eq_true rfl) dX10_init_13 (fun H locs hP hD hS => ?_)
  have hPD : zPD G A [(ah, .inr (9, [.ref an1])), (an1, .inr (5, [.ref an1_cells])), (an1_cells, .inl (tt 0, 5, .inl q0))] H := ⟨hP.sub [0, 1, 2] rfl, hD.sub [0, 1, 2] (by decide +kernel) rfl⟩
  have hP9 := hPD.1
  have hD9 := hPD.2
  have hR := Option.some.inj hF
  subst hR
  exact W.vret hx hb hr (fun t ht hW => ⟨⟨(an1, an1_cells), rfl, trivial, by rw [ht]; exact hP9, va_K.moved hW.alike hK, hD9⟩, hS.F ht⟩) hS.2.2 dX10_init_16

set_option maxHeartbeats 16000000 in
set_option maxRecDepth 100000 in
theorem mX4_init (l : Launch) (G : va_G) (tt : Nat → ClassId) (sz : Nat) (ah : Nat) (RR : (Nat → Int32) × Int32 × (Nat → Int32) × (Nat → Int32) × (Nat → Int32) × (Nat → Int32) × (Nat → Int32) × (Nat → Int32) × Int32 × Int32 × Int32 × Int32 × Int32 × (Nat → Int64) × (Nat → Int64) × (Nat → Int32) × (Nat → Int32) × (Nat → Int32) × (Nat → Int32) × Int32 × Int32) (hF : fX4_init = some RR) : Met l yX4_init wsX4_init ({ frames := 4, cells := 28, slots := 2711, locals := 84 } : Room) (zPreI G (zTy tt) [.ref ah] sz [(ah, .inr (3, [.null, .null, .null, .null, .null, .null, .null, .int (0 : Int32), .int (0 : Int32)]))]) (va_Qv (fun _ : Nat × Nat × Nat × Nat × Nat × Nat × Nat × Nat × Nat × Nat × Nat × Nat × Nat × Nat × Nat × Nat × Nat × Nat × Nat × Nat × Nat × Nat × Nat × Nat × Nat × Nat × Nat × Nat => True) (zAt G (zTy tt) (va_A [(ah, .inr (3, [.null, .null, .null, .null, .null, .null, .null, .int (0 : Int32), .int (0 : Int32)]))] sz) (fun u : Nat × Nat × Nat × Nat × Nat × Nat × Nat × Nat × Nat × Nat × Nat × Nat × Nat × Nat × Nat × Nat × Nat × Nat × Nat × Nat × Nat × Nat × Nat × Nat × Nat × Nat × Nat × Nat => [(ah, .inr (3, [.ref u.1, .ref u.2.2.2.2.2.2.2.2.2.2.2.2.2.2.2.2.1, .ref u.2.2.2.2.2.2.2.2.2.2.2.2.2.2.2.2.2.2.1, .ref u.2.2.2.2.2.2.2.2.2.2.2.2.2.2.2.2.2.2.2.2.1, .ref u.2.2.2.2.2.2.2.2.2.2.2.2.2.2.2.2.2.2.2.2.2.2.1, .ref u.2.2.2.2.2.2.2.2.2.2.2.2.2.2.2.2.2.2.2.2.2.2.2.2.1, .ref u.2.2.2.2.2.2.2.2.2.2.2.2.2.2.2.2.2.2.2.2.2.2.2.2.2.2.1, .int RR.2.2.2.2.2.2.2.2.2.2.2.2.2.2.2.2.2.2.2.1, .int RR.2.2.2.2.2.2.2.2.2.2.2.2.2.2.2.2.2.2.2.2])), (u.1, .inr (7, [.ref u.2.1, .ref u.2.2.2.2.1, .ref u.2.2.2.2.2.2.1, .ref u.2.2.2.2.2.2.2.2.1, .ref u.2.2.2.2.2.2.2.2.2.2.1, .ref u.2.2.2.2.2.2.2.2.2.2.2.2.1, .ref u.2.2.2.2.2.2.2.2.2.2.2.2.2.2.1, .int RR.2.2.2.2.2.2.2.2.1, .int RR.2.2.2.2.2.2.2.2.2.1, .int RR.2.2.2.2.2.2.2.2.2.2.1, .int RR.2.2.2.2.2.2.2.2.2.2.2.1, .int RR.2.2.2.2.2.2.2.2.2.2.2.2.1])), (u.2.1, .inr (1, [.ref u.2.2.1, .int RR.2.1])), (u.2.2.1, .inr (5, [.ref u.2.2.2.1])), (u.2.2.2.1, .inl (tt 0, 5, .inl RR.1)), (u.2.2.2.2.1, .inr (5, [.ref u.2.2.2.2.2.1])), (u.2.2.2.2.2.1, .inl (tt 0, 4, .inl RR.2.2.1)), (u.2.2.2.2.2.2.1, .inr (5, [.ref u.2.2.2.2.2.2.2.1])), (u.2.2.2.2.2.2.2.1, .inl (tt 0, 4, .inl RR.2.2.2.1)), (u.2.2.2.2.2.2.2.2.1, .inr (5, [.ref u.2.2.2.2.2.2.2.2.2.1])), (u.2.2.2.2.2.2.2.2.2.1, .inl (tt 0, 4, .inl RR.2.2.2.2.1)), (u.2.2.2.2.2.2.2.2.2.2.1, .inr (5, [.ref u.2.2.2.2.2.2.2.2.2.2.2.1])), (u.2.2.2.2.2.2.2.2.2.2.2.1, .inl (tt 0, 4, .inl RR.2.2.2.2.2.1)), (u.2.2.2.2.2.2.2.2.2.2.2.2.1, .inr (5, [.ref u.2.2.2.2.2.2.2.2.2.2.2.2.2.1])), (u.2.2.2.2.2.2.2.2.2.2.2.2.2.1, .inl (tt 0, 4, .inl RR.2.2.2.2.2.2.1)), (u.2.2.2.2.2.2.2.2.2.2.2.2.2.2.1, .inr (5, [.ref u.2.2.2.2.2.2.2.2.2.2.2.2.2.2.2.1])), (u.2.2.2.2.2.2.2.2.2.2.2.2.2.2.2.1, .inl (tt 0, 4, .inl RR.2.2.2.2.2.2.2.1)), (u.2.2.2.2.2.2.2.2.2.2.2.2.2.2.2.2.1, .inr (6, [.ref u.2.2.2.2.2.2.2.2.2.2.2.2.2.2.2.2.2.1])), (u.2.2.2.2.2.2.2.2.2.2.2.2.2.2.2.2.2.1, .inl (tt 1, 40, .inr (.inl RR.2.2.2.2.2.2.2.2.2.2.2.2.2.1))), (u.2.2.2.2.2.2.2.2.2.2.2.2.2.2.2.2.2.2.1, .inr (6, [.ref u.2.2.2.2.2.2.2.2.2.2.2.2.2.2.2.2.2.2.2.1])), (u.2.2.2.2.2.2.2.2.2.2.2.2.2.2.2.2.2.2.2.1, .inl (tt 1, 40, .inr (.inl RR.2.2.2.2.2.2.2.2.2.2.2.2.2.2.1))), (u.2.2.2.2.2.2.2.2.2.2.2.2.2.2.2.2.2.2.2.2.1, .inr (5, [.ref u.2.2.2.2.2.2.2.2.2.2.2.2.2.2.2.2.2.2.2.2.2.1])), (u.2.2.2.2.2.2.2.2.2.2.2.2.2.2.2.2.2.2.2.2.2.1, .inl (tt 0, 5, .inl RR.2.2.2.2.2.2.2.2.2.2.2.2.2.2.2.1)), (u.2.2.2.2.2.2.2.2.2.2.2.2.2.2.2.2.2.2.2.2.2.2.1, .inr (5, [.ref u.2.2.2.2.2.2.2.2.2.2.2.2.2.2.2.2.2.2.2.2.2.2.2.1])), (u.2.2.2.2.2.2.2.2.2.2.2.2.2.2.2.2.2.2.2.2.2.2.2.1, .inl (tt 0, 5, .inl RR.2.2.2.2.2.2.2.2.2.2.2.2.2.2.2.2.1)), (u.2.2.2.2.2.2.2.2.2.2.2.2.2.2.2.2.2.2.2.2.2.2.2.2.1, .inr (5, [.ref u.2.2.2.2.2.2.2.2.2.2.2.2.2.2.2.2.2.2.2.2.2.2.2.2.2.1])), (u.2.2.2.2.2.2.2.2.2.2.2.2.2.2.2.2.2.2.2.2.2.2.2.2.2.1, .inl (tt 0, 2560, .inl RR.2.2.2.2.2.2.2.2.2.2.2.2.2.2.2.2.2.1)), (u.2.2.2.2.2.2.2.2.2.2.2.2.2.2.2.2.2.2.2.2.2.2.2.2.2.2.1, .inr (5, [.ref u.2.2.2.2.2.2.2.2.2.2.2.2.2.2.2.2.2.2.2.2.2.2.2.2.2.2.2])), (u.2.2.2.2.2.2.2.2.2.2.2.2.2.2.2.2.2.2.2.2.2.2.2.2.2.2.2, .inl (tt 0, 5, .inl RR.2.2.2.2.2.2.2.2.2.2.2.2.2.2.2.2.2.2.1))])) (va_A [(ah, .inr (3, [.null, .null, .null, .null, .null, .null, .null, .int (0 : Int32), .int (0 : Int32)]))] sz)) 28 2711 (va_A [(ah, .inr (3, [.null, .null, .null, .null, .null, .null, .null, .int (0 : Int32), .int (0 : Int32)]))] sz) := by
  refine Met.ofW (cc := cX4_init) (maxL := 1) (ret := none) (by decide +kernel) rfl ?_
  intro p e s m args below meth c s₁ B hml hv
  obtain ⟨rfl, hsz, hP, hK, hD0, hN, hO⟩ := hv
  have hx := B.exec
  have hb := B.bytes
  have hr := B.returns
  have hts := atoms_spec (ws := wsX4_init) B.pre
  have hin : meth.name = "<init>" := (name_of_methodNamed B.named B.method).1
  have hown : s.vm.findClass RX4 = some m.cls := findClass_of_methodNamed B.named
  have hlocks := B.notSynchronized
  subst hsz
  have hD := hD0.self (sz := s.heap.size)
  generalize hAe : va_A [(ah, .inr (3, [.null, .null, .null, .null, .null, .null, .null, .int (0 : Int32), .int (0 : Int32)]))] s.heap.size = A at hD ⊢
  have hA : ∀ q : Nat, s.heap.size ≤ q → A q := fun q h => by rw [← hAe]; exact Or.inr h
  have hP : va_P G vwCl [(ah, .inr (3, [.null, .null, .null, .null, .null, .null, .null, .int (0 : Int32), .int (0 : Int32)]))] s.heap := hP
  have hiX4 : ∀ w ∈ wsX40, w ∈ wsX4_init := by decide +kernel
  have hiX6 : ∀ w ∈ wsX60, w ∈ wsX4_init := by decide +kernel
  have hiX7 : ∀ w ∈ wsX70, w ∈ wsX4_init := by decide +kernel
  have hiX8 : ∀ w ∈ wsX80, w ∈ wsX4_init := by decide +kernel
  have hl := lv_entry ([.ref ah]) (n := 1) (Nat.le_of_ble_eq_true rfl)
  rw [lg_entry_eq]
  generalize (lg_sl ([.ref ah]) ++ List.replicate (1 - (lg_sl ([.ref ah])).length) Slot.unset).toArray = ls at hl ⊢
  have hl : lv_has ls 1 [(0, .ref ah)] := hl
  obtain ⟨H, hHe⟩ : ∃ H : Heap, s.heap = H := ⟨_, rfl⟩
  have hS : va_S A s.heap H [] := by rw [← hHe]; exact va_S.rf
  rw [hHe] at hP ⊢
  unfold fX4_init at hF
  refine lv_aload_n hx hb dX4_init_0 rfl (lv_at hl 0 rfl) ?_
  refine z_objInit hx hb hown (hts (.methodLink RX4 3 objectInit) (List.mem_of_getElem? (i := 1) rfl)) (hts (.instanceMethod objectInit) (List.mem_of_getElem? (i := 2) rfl)) (hts (.code objectInit ⟨#[0xb1]⟩ 1 none) (List.mem_of_getElem? (i := 3) rfl)) (hl.1.trans hml.symm) dX4_init_1 (Nat.le_of_ble_eq_true rfl) (Nat.le_of_ble_eq_true rfl) ?_
  refine lv_aload_n hx hb dX4_init_4 rfl (lv_at hl 0 rfl) ?_
  refine va_new (D := G) (C := RX8) (T := TX8) (N := 12) (ci := 7) (fs := [.null, .null, .null, .null, .null, .null, .null, .int 0, .int 0, .int 0, .int 0, .int 0]) hx hb hts hiX8 tyX8 tyX8_ok hown (hts (.classLink RX4 9 RX8) (List.mem_of_getElem? (i := 4) rfl)) (hts (.instantiable RX8 12) (List.mem_of_getElem? (i := 5) rfl)) (hts (.initialized RX8) (List.mem_of_getElem? (i := 6) rfl)) hK hP hD hS hA rfl (fun j hj => match j, hj with | 0, _ => rfl | 1, _ => rfl | 2, _ => rfl | 3, _ => rfl | 4, _ => rfl | 5, _ => rfl | 6, _ => rfl | 7, _ => rfl | 8, _ => rfl | 9, _ => rfl | 10, _ => rfl | 11, _ => rfl | (n9 + 12), h9 => absurd h9 (by omega)) (Nat.le_of_ble_eq_true rfl) (Nat.le_of_ble_eq_true rfl) dX4_init_5 (fun an1 H hP hD hS => ?_)
  refine lv_dup hx hb dX4_init_8 rfl ?_
  obtain ⟨q0, hc_q0, hF⟩ := z_bind hF
  refine z_backC (wr := [(ah, .inr (3, [.null, .null, .null, .null, .null, .null, .null, .int (0 : Int32), .int (0 : Int32)]))]) (z_goIN (wc := [(an1, .inr (7, [.null, .null, .null, .null, .null, .null, .null, .int (0 : Int32), .int (0 : Int32), .int (0 : Int32), .int (0 : Int32), .int (0 : Int32)]))]) (As := []) (rest := [.ref an1, .ref ah]) (host := "LeapTables") ⟨hx, hb, hml, hown, hts⟩ hK hN hO hP hD (mX8_init l G tt H.size an1 q0 hc_q0) ⟨va_cnB 0 hts gX4_init_X8_init_n11 rfl rfl rfl (hN.2 _ (List.mem_of_getElem? (i := 7) rfl)) (hts (.initialized RX8) (List.mem_of_getElem? (i := 6) rfl)) (by decide +kernel) ⟨Nat.le_of_ble_eq_true rfl, Nat.le_of_ble_eq_true rfl⟩, rfl, hts (.instanceMethod yX8_init) (List.mem_of_getElem? (i := 20) rfl)⟩ [1] rfl (by decide +kernel) rfl hl.1 rfl (Nat.le_of_ble_eq_true rfl) dX4_init_9 ⟨Nat.le_of_ble_eq_true rfl, Nat.le_of_ble_eq_true rfl⟩) hP hD hS hA [1] [0] rfl rfl (by decide +kernel) (by decide +kernel) (fun u H locs hw hP hD hS => ?_)
  obtain ⟨an1_atoms, an1_atoms_codes, an1_atoms_codes_cells, an1_sequence, an1_sequence_cells, an1_askers, an1_askers_cells, an1_reached, an1_reached_cells, an1_tellers, an1_tellers_cells, an1_turns, an1_turns_cells, an1_keys, an1_keys_cells⟩ := u
  refine va_putF (D := G) (ci := 3) (v := .ref an1) (ty := (.object "LeapTables$Search")) (C := RX4) (T := TX4) (N := 9) hx hb hts hiX4 tyX4 tyX4_ok nmX4 hown hK hP hD hS 0 rfl rfl 0 (by decide) (hts (.fieldLink RX4 12 "LeapTables$Growth" "search" "LLeapTables$Search;") (List.mem_of_getElem? (i := 7) rfl)) (fun _ h9 => h9) rfl hin rfl (by decide +kernel) rfl rfl (Nat.le_of_ble_eq_true rfl) dX4_init_12 (fun H locs hP hD hS => ?_)
  refine lv_aload_n hx hb dX4_init_15 rfl (lv_at hl 0 rfl) ?_
  refine va_new (D := G) (C := RX7) (T := TX7) (N := 1) (ci := 6) (fs := [.null]) hx hb hts hiX7 tyX7 tyX7_ok hown (hts (.classLink RX4 18 RX7) (List.mem_of_getElem? (i := 8) rfl)) (hts (.instantiable RX7 1) (List.mem_of_getElem? (i := 9) rfl)) (hts (.initialized RX7) (List.mem_of_getElem? (i := 10) rfl)) hK hP hD hS hA rfl (fun j hj => match j, hj with | 0, _ => rfl | (n9 + 1), h9 => absurd h9 (by omega)) (Nat.le_of_ble_eq_true rfl) (Nat.le_of_ble_eq_true rfl) dX4_init_16 (fun an2 H hP hD hS => ?_)
  refine lv_dup hx hb dX4_init_19 rfl ?_
  obtain ⟨q1, hc_q1, hF⟩ := z_bind hF
  refine z_backC (wr := [(ah, .inr (3, [.ref an1, .null, .null, .null, .null, .null, .null, .int (0 : Int32), .int (0 : Int32)])), (an1, .inr (7, [.ref an1_atoms, .ref an1_sequence, .ref an1_askers, .ref an1_reached, .ref an1_tellers, .ref an1_turns, .ref an1_keys, .int q0.2.2.2.2.2.2.2.2.1, .int q0.2.2.2.2.2.2.2.2.2.1, .int q0.2.2.2.2.2.2.2.2.2.2.1, .int q0.2.2.2.2.2.2.2.2.2.2.2.1, .int q0.2.2.2.2.2.2.2.2.2.2.2.2])), (an1_atoms, .inr (1, [.ref an1_atoms_codes, .int q0.2.1])), (an1_atoms_codes, .inr (5, [.ref an1_atoms_codes_cells])), (an1_atoms_codes_cells, .inl (tt 0, 5, .inl q0.1)), (an1_sequence, .inr (5, [.ref an1_sequence_cells])), (an1_sequence_cells, .inl (tt 0, 4, .inl q0.2.2.1)), (an1_askers, .inr (5, [.ref an1_askers_cells])), (an1_askers_cells, .inl (tt 0, 4, .inl q0.2.2.2.1)), (an1_reached, .inr (5, [.ref an1_reached_cells])), (an1_reached_cells, .inl (tt 0, 4, .inl q0.2.2.2.2.1)), (an1_tellers, .inr (5, [.ref an1_tellers_cells])), (an1_tellers_cells, .inl (tt 0, 4, .inl q0.2.2.2.2.2.1)), (an1_turns, .inr (5, [.ref an1_turns_cells])), (an1_turns_cells, .inl (tt 0, 4, .inl q0.2.2.2.2.2.2.1)), (an1_keys, .inr (5, [.ref an1_keys_cells])), (an1_keys_cells, .inl (tt 0, 4, .inl q0.2.2.2.2.2.2.2.1))]) (z_goIN (wc := [(an2, .inr (6, [.null]))]) (As := []) (rest := [.ref an2, .ref ah]) (host := "LeapTables") ⟨hx, hb, hml, hown, hts⟩ hK hN hO hP hD (mX7_init l G tt H.size an2 q1 hc_q1) ⟨va_cnB 0 hts gX4_init_X7_init_n20 rfl rfl rfl (hN.2 _ (List.mem_of_getElem? (i := 8) rfl)) (hts (.initialized RX7) (List.mem_of_getElem? (i := 10) rfl)) (by decide +kernel) ⟨Nat.le_of_ble_eq_true rfl, Nat.le_of_ble_eq_true rfl⟩, rfl, hts (.instanceMethod yX7_init) (List.mem_of_getElem? (i := 46) rfl)⟩ [17] rfl (by decide +kernel) rfl hl.1 rfl (Nat.le_of_ble_eq_true rfl) dX4_init_20 ⟨Nat.le_of_ble_eq_true rfl, Nat.le_of_ble_eq_true rfl⟩) hP hD hS hA [17] [0, 1, 2, 3, 4, 5, 6, 7, 8, 9, 10, 11, 12, 13, 14, 15, 16] rfl rfl (by decide +kernel) (by decide +kernel) (fun an2_words H locs hw hP hD hS => ?_)
  refine va_putF (D := G) (ci := 3) (v := .ref an2) (ty := (.object "LeapTables$Rows")) (C := RX4) (T := TX4) (N := 9) hx hb hts hiX4 tyX4 tyX4_ok nmX4 hown hK hP hD hS 0 rfl rfl 1 (by decide) (hts (.fieldLink RX4 21 "LeapTables$Growth" "rows" "LLeapTables$Rows;") (List.mem_of_getElem? (i := 11) rfl)) (fun _ h9 => h9) rfl hin rfl (by decide +kernel) rfl rfl (Nat.le_of_ble_eq_true rfl) dX4_init_23 (fun H locs hP hD hS => ?_)
  refine lv_aload_n hx hb dX4_init_26 rfl (lv_at hl 0 rfl) ?_
  refine va_new (D := G) (C := RX7) (T := TX7) (N := 1) (ci := 6) (fs := [.null]) hx hb hts hiX7 tyX7 tyX7_ok hown (hts (.classLink RX4 18 RX7) (List.mem_of_getElem? (i := 8) rfl)) (hts (.instantiable RX7 1) (List.mem_of_getElem? (i := 9) rfl)) (hts (.initialized RX7) (List.mem_of_getElem? (i := 10) rfl)) hK hP hD hS hA rfl (fun j hj => match j, hj with | 0, _ => rfl | (n9 + 1), h9 => absurd h9 (by omega)) (Nat.le_of_ble_eq_true rfl) (Nat.le_of_ble_eq_true rfl) dX4_init_27 (fun an3 H hP hD hS => ?_)
  refine lv_dup hx hb dX4_init_30 rfl ?_
  obtain ⟨q2, hc_q2, hF⟩ := z_bind hF
  refine z_backC (wr := [(ah, .inr (3, [.ref an1, .ref an2, .null, .null, .null, .null, .null, .int (0 : Int32), .int (0 : Int32)])), (an1, .inr (7, [.ref an1_atoms, .ref an1_sequence, .ref an1_askers, .ref an1_reached, .ref an1_tellers, .ref an1_turns, .ref an1_keys, .int q0.2.2.2.2.2.2.2.2.1, .int q0.2.2.2.2.2.2.2.2.2.1, .int q0.2.2.2.2.2.2.2.2.2.2.1, .int q0.2.2.2.2.2.2.2.2.2.2.2.1, .int q0.2.2.2.2.2.2.2.2.2.2.2.2])), (an1_atoms, .inr (1, [.ref an1_atoms_codes, .int q0.2.1])), (an1_atoms_codes, .inr (5, [.ref an1_atoms_codes_cells])), (an1_atoms_codes_cells, .inl (tt 0, 5, .inl q0.1)), (an1_sequence, .inr (5, [.ref an1_sequence_cells])), (an1_sequence_cells, .inl (tt 0, 4, .inl q0.2.2.1)), (an1_askers, .inr (5, [.ref an1_askers_cells])), (an1_askers_cells, .inl (tt 0, 4, .inl q0.2.2.2.1)), (an1_reached, .inr (5, [.ref an1_reached_cells])), (an1_reached_cells, .inl (tt 0, 4, .inl q0.2.2.2.2.1)), (an1_tellers, .inr (5, [.ref an1_tellers_cells])), (an1_tellers_cells, .inl (tt 0, 4, .inl q0.2.2.2.2.2.1)), (an1_turns, .inr (5, [.ref an1_turns_cells])), (an1_turns_cells, .inl (tt 0, 4, .inl q0.2.2.2.2.2.2.1)), (an1_keys, .inr (5, [.ref an1_keys_cells])), (an1_keys_cells, .inl (tt 0, 4, .inl q0.2.2.2.2.2.2.2.1)), (an2, .inr (6, [.ref an2_words])), (an2_words, .inl (tt 1, 40, .inr (.inl q1)))]) (z_goIN (wc := [(an3, .inr (6, [.null]))]) (As := []) (rest := [.ref an3, .ref ah]) (host := "LeapTables") ⟨hx, hb, hml, hown, hts⟩ hK hN hO hP hD (mX7_init l G tt H.size an3 q2 hc_q2) ⟨va_cnB 0 hts gX4_init_X7_init_n20 rfl rfl rfl (hN.2 _ (List.mem_of_getElem? (i := 8) rfl)) (hts (.initialized RX7) (List.mem_of_getElem? (i := 10) rfl)) (by decide +kernel) ⟨Nat.le_of_ble_eq_true rfl, Nat.le_of_ble_eq_true rfl⟩, rfl, hts (.instanceMethod yX7_init) (List.mem_of_getElem? (i := 46) rfl)⟩ [19] rfl (by decide +kernel) rfl hl.1 rfl (Nat.le_of_ble_eq_true rfl) dX4_init_31 ⟨Nat.le_of_ble_eq_true rfl, Nat.le_of_ble_eq_true rfl⟩) hP hD hS hA [19] [0, 1, 2, 3, 4, 5, 6, 7, 8, 9, 10, 11, 12, 13, 14, 15, 16, 17, 18] rfl rfl (by decide +kernel) (by decide +kernel) (fun an3_words H locs hw hP hD hS => ?_)
  refine va_putF (D := G) (ci := 3) (v := .ref an3) (ty := (.object "LeapTables$Rows")) (C := RX4) (T := TX4) (N := 9) hx hb hts hiX4 tyX4 tyX4_ok nmX4 hown hK hP hD hS 0 rfl rfl 2 (by decide) (hts (.fieldLink RX4 25 "LeapTables$Growth" "fresh" "LLeapTables$Rows;") (List.mem_of_getElem? (i := 12) rfl)) (fun _ h9 => h9) rfl hin rfl (by decide +kernel) rfl rfl (Nat.le_of_ble_eq_true rfl) dX4_init_34 (fun H locs hP hD hS => ?_)
  refine lv_aload_n hx hb dX4_init_37 rfl (lv_at hl 0 rfl) ?_
  refine va_new (D := G) (C := RX6) (T := TX6) (N := 1) (ci := 5) (fs := [.null]) hx hb hts hiX6 tyX6 tyX6_ok hown (hts (.classLink RX4 28 RX6) (List.mem_of_getElem? (i := 13) rfl)) (hts (.instantiable RX6 1) (List.mem_of_getElem? (i := 14) rfl)) (hts (.initialized RX6) (List.mem_of_getElem? (i := 15) rfl)) hK hP hD hS hA rfl (fun j hj => match j, hj with | 0, _ => rfl | (n9 + 1), h9 => absurd h9 (by omega)) (Nat.le_of_ble_eq_true rfl) (Nat.le_of_ble_eq_true rfl) dX4_init_38 (fun an4 H hP hD hS => ?_)
  refine lv_dup hx hb dX4_init_41 rfl ?_
  refine lv_iconst (v := (5 : Int32)) hx hb dX4_init_42 (by decide) ?_
  obtain ⟨q3, hc_q3, hF⟩ := z_bind hF
  refine z_backC (wr := [(ah, .inr (3, [.ref an1, .ref an2, .ref an3, .null, .null, .null, .null, .int (0 : Int32), .int (0 : Int32)])), (an1, .inr (7, [.ref an1_atoms, .ref an1_sequence, .ref an1_askers, .ref an1_reached, .ref an1_tellers, .ref an1_turns, .ref an1_keys, .int q0.2.2.2.2.2.2.2.2.1, .int q0.2.2.2.2.2.2.2.2.2.1, .int q0.2.2.2.2.2.2.2.2.2.2.1, .int q0.2.2.2.2.2.2.2.2.2.2.2.1, .int q0.2.2.2.2.2.2.2.2.2.2.2.2])), (an1_atoms, .inr (1, [.ref an1_atoms_codes, .int q0.2.1])), (an1_atoms_codes, .inr (5, [.ref an1_atoms_codes_cells])), (an1_atoms_codes_cells, .inl (tt 0, 5, .inl q0.1)), (an1_sequence, .inr (5, [.ref an1_sequence_cells])), (an1_sequence_cells, .inl (tt 0, 4, .inl q0.2.2.1)), (an1_askers, .inr (5, [.ref an1_askers_cells])), (an1_askers_cells, .inl (tt 0, 4, .inl q0.2.2.2.1)), (an1_reached, .inr (5, [.ref an1_reached_cells])), (an1_reached_cells, .inl (tt 0, 4, .inl q0.2.2.2.2.1)), (an1_tellers, .inr (5, [.ref an1_tellers_cells])), (an1_tellers_cells, .inl (tt 0, 4, .inl q0.2.2.2.2.2.1)), (an1_turns, .inr (5, [.ref an1_turns_cells])), (an1_turns_cells, .inl (tt 0, 4, .inl q0.2.2.2.2.2.2.1)), (an1_keys, .inr (5, [.ref an1_keys_cells])), (an1_keys_cells, .inl (tt 0, 4, .inl q0.2.2.2.2.2.2.2.1)), (an2, .inr (6, [.ref an2_words])), (an2_words, .inl (tt 1, 40, .inr (.inl q1))), (an3, .inr (6, [.ref an3_words])), (an3_words, .inl (tt 1, 40, .inr (.inl q2)))]) (z_goI (wc := [(an4, .inr (5, [.null]))]) (As := [.int (5 : Int32)]) (rest := [.ref an4, .ref ah]) ⟨hx, hb, hml, hown, hts⟩ hK hN hO hP hD (mX6_initN5 l G tt H.size an4 q3 hc_q3) (cwI 1 hts gX4_init_X6_init rfl rfl rfl (hts (.initialized RX6) (List.mem_of_getElem? (i := 15) rfl)) (hts (.methodLink RX4 30 yX6_init) (List.mem_of_getElem? (i := 51) rfl)) (hts (.instanceMethod yX6_init) (List.mem_of_getElem? (i := 40) rfl)) rfl (by decide +kernel) ⟨Nat.le_of_ble_eq_true rfl, Nat.le_of_ble_eq_true rfl⟩) [21] rfl (by decide +kernel) rfl hl.1 rfl (Nat.le_of_ble_eq_true rfl) dX4_init_43 ⟨Nat.le_of_ble_eq_true rfl, Nat.le_of_ble_eq_true rfl⟩) hP hD hS hA [21] [0, 1, 2, 3, 4, 5, 6, 7, 8, 9, 10, 11, 12, 13, 14, 15, 16, 17, 18, 19, 20] rfl rfl (by decide +kernel) (by decide +kernel) (fun an4_cells H locs hw hP hD hS => ?_)
  refine va_putF (D := G) (ci := 3) (v := .ref an4) (ty := (.object "LeapTables$Ints")) (C := RX4) (T := TX4) (N := 9) hx hb hts hiX4 tyX4 tyX4_ok nmX4 hown hK hP hD hS 0 rfl rfl 3 (by decide) (hts (.fieldLink RX4 33 "LeapTables$Growth" "tried" "LLeapTables$Ints;") (List.mem_of_getElem? (i := 16) rfl)) (fun _ h9 => h9) rfl hin rfl (by decide +kernel) rfl rfl (Nat.le_of_ble_eq_true rfl) dX4_init_46 (fun H locs hP hD hS => ?_)
  refine lv_aload_n hx hb dX4_init_49 rfl (lv_at hl 0 rfl) ?_
  refine va_new (D := G) (C := RX6) (T := TX6) (N := 1) (ci := 5) (fs := [.null]) hx hb hts hiX6 tyX6 tyX6_ok hown (hts (.classLink RX4 28 RX6) (List.mem_of_getElem? (i := 13) rfl)) (hts (.instantiable RX6 1) (List.mem_of_getElem? (i := 14) rfl)) (hts (.initialized RX6) (List.mem_of_getElem? (i := 15) rfl)) hK hP hD hS hA rfl (fun j hj => match j, hj with | 0, _ => rfl | (n9 + 1), h9 => absurd h9 (by omega)) (Nat.le_of_ble_eq_true rfl) (Nat.le_of_ble_eq_true rfl) dX4_init_50 (fun an5 H hP hD hS => ?_)
  refine lv_dup hx hb dX4_init_53 rfl ?_
  refine lv_iconst (v := (5 : Int32)) hx hb dX4_init_54 (by decide) ?_
  obtain ⟨q4, hc_q4, hF⟩ := z_bind hF
  refine z_backC (wr := [(ah, .inr (3, [.ref an1, .ref an2, .ref an3, .ref an4, .null, .null, .null, .int (0 : Int32), .int (0 : Int32)])), (an1, .inr (7, [.ref an1_atoms, .ref an1_sequence, .ref an1_askers, .ref an1_reached, .ref an1_tellers, .ref an1_turns, .ref an1_keys, .int q0.2.2.2.2.2.2.2.2.1, .int q0.2.2.2.2.2.2.2.2.2.1, .int q0.2.2.2.2.2.2.2.2.2.2.1, .int q0.2.2.2.2.2.2.2.2.2.2.2.1, .int q0.2.2.2.2.2.2.2.2.2.2.2.2])), (an1_atoms, .inr (1, [.ref an1_atoms_codes, .int q0.2.1])), (an1_atoms_codes, .inr (5, [.ref an1_atoms_codes_cells])), (an1_atoms_codes_cells, .inl (tt 0, 5, .inl q0.1)), (an1_sequence, .inr (5, [.ref an1_sequence_cells])), (an1_sequence_cells, .inl (tt 0, 4, .inl q0.2.2.1)), (an1_askers, .inr (5, [.ref an1_askers_cells])), (an1_askers_cells, .inl (tt 0, 4, .inl q0.2.2.2.1)), (an1_reached, .inr (5, [.ref an1_reached_cells])), (an1_reached_cells, .inl (tt 0, 4, .inl q0.2.2.2.2.1)), (an1_tellers, .inr (5, [.ref an1_tellers_cells])), (an1_tellers_cells, .inl (tt 0, 4, .inl q0.2.2.2.2.2.1)), (an1_turns, .inr (5, [.ref an1_turns_cells])), (an1_turns_cells, .inl (tt 0, 4, .inl q0.2.2.2.2.2.2.1)), (an1_keys, .inr (5, [.ref an1_keys_cells])), (an1_keys_cells, .inl (tt 0, 4, .inl q0.2.2.2.2.2.2.2.1)), (an2, .inr (6, [.ref an2_words])), (an2_words, .inl (tt 1, 40, .inr (.inl q1))), (an3, .inr (6, [.ref an3_words])), (an3_words, .inl (tt 1, 40, .inr (.inl q2))), (an4, .inr (5, [.ref an4_cells])), (an4_cells, .inl (tt 0, 5, .inl q3))]) (z_goI (wc := [(an5, .inr (5, [.null]))]) (As := [.int (5 : Int32)]) (rest := [.ref an5, .ref ah]) ⟨hx, hb, hml, hown, hts⟩ hK hN hO hP hD (mX6_initN5 l G tt H.size an5 q4 hc_q4) (cwI 1 hts gX4_init_X6_init rfl rfl rfl (hts (.initialized RX6) (List.mem_of_getElem? (i := 15) rfl)) (hts (.methodLink RX4 30 yX6_init) (List.mem_of_getElem? (i := 51) rfl)) (hts (.instanceMethod yX6_init) (List.mem_of_getElem? (i := 40) rfl)) rfl (by decide +kernel) ⟨Nat.le_of_ble_eq_true rfl, Nat.le_of_ble_eq_true rfl⟩) [23] rfl (by decide +kernel) rfl hl.1 rfl (Nat.le_of_ble_eq_true rfl) dX4_init_55 ⟨Nat.le_of_ble_eq_true rfl, Nat.le_of_ble_eq_true rfl⟩) hP hD hS hA [23] [0, 1, 2, 3, 4, 5, 6, 7, 8, 9, 10, 11, 12, 13, 14, 15, 16, 17, 18, 19, 20, 21, 22] rfl rfl (by decide +kernel) (by decide +kernel) (fun an5_cells H locs hw hP hD hS => ?_)
  refine va_putF (D := G) (ci := 3) (v := .ref an5) (ty := (.object "LeapTables$Ints")) (C := RX4) (T := TX4) (N := 9) hx hb hts hiX4 tyX4 tyX4_ok nmX4 hown hK hP hD hS 0 rfl rfl 4 (by decide) (hts (.fieldLink RX4 37 "LeapTables$Growth" "layers" "LLeapTables$Ints;") (List.mem_of_getElem? (i := 17) rfl)) (fun _ h9 => h9) rfl hin rfl (by decide +kernel) rfl rfl (Nat.le_of_ble_eq_true rfl) dX4_init_58 (fun H locs hP hD hS => ?_)
  refine lv_aload_n hx hb dX4_init_61 rfl (lv_at hl 0 rfl) ?_
  refine va_new (D := G) (C := RX6) (T := TX6) (N := 1) (ci := 5) (fs := [.null]) hx hb hts hiX6 tyX6 tyX6_ok hown (hts (.classLink RX4 28 RX6) (List.mem_of_getElem? (i := 13) rfl)) (hts (.instantiable RX6 1) (List.mem_of_getElem? (i := 14) rfl)) (hts (.initialized RX6) (List.mem_of_getElem? (i := 15) rfl)) hK hP hD hS hA rfl (fun j hj => match j, hj with | 0, _ => rfl | (n9 + 1), h9 => absurd h9 (by omega)) (Nat.le_of_ble_eq_true rfl) (Nat.le_of_ble_eq_true rfl) dX4_init_62 (fun an6 H hP hD hS => ?_)
  refine lv_dup hx hb dX4_init_65 rfl ?_
  refine lv_sipush (v := (2560 : Int32)) hx hb dX4_init_66 (by decide) ?_
  obtain ⟨q5, hc_q5, hF⟩ := z_bind hF
  refine z_backC (wr := [(ah, .inr (3, [.ref an1, .ref an2, .ref an3, .ref an4, .ref an5, .null, .null, .int (0 : Int32), .int (0 : Int32)])), (an1, .inr (7, [.ref an1_atoms, .ref an1_sequence, .ref an1_askers, .ref an1_reached, .ref an1_tellers, .ref an1_turns, .ref an1_keys, .int q0.2.2.2.2.2.2.2.2.1, .int q0.2.2.2.2.2.2.2.2.2.1, .int q0.2.2.2.2.2.2.2.2.2.2.1, .int q0.2.2.2.2.2.2.2.2.2.2.2.1, .int q0.2.2.2.2.2.2.2.2.2.2.2.2])), (an1_atoms, .inr (1, [.ref an1_atoms_codes, .int q0.2.1])), (an1_atoms_codes, .inr (5, [.ref an1_atoms_codes_cells])), (an1_atoms_codes_cells, .inl (tt 0, 5, .inl q0.1)), (an1_sequence, .inr (5, [.ref an1_sequence_cells])), (an1_sequence_cells, .inl (tt 0, 4, .inl q0.2.2.1)), (an1_askers, .inr (5, [.ref an1_askers_cells])), (an1_askers_cells, .inl (tt 0, 4, .inl q0.2.2.2.1)), (an1_reached, .inr (5, [.ref an1_reached_cells])), (an1_reached_cells, .inl (tt 0, 4, .inl q0.2.2.2.2.1)), (an1_tellers, .inr (5, [.ref an1_tellers_cells])), (an1_tellers_cells, .inl (tt 0, 4, .inl q0.2.2.2.2.2.1)), (an1_turns, .inr (5, [.ref an1_turns_cells])), (an1_turns_cells, .inl (tt 0, 4, .inl q0.2.2.2.2.2.2.1)), (an1_keys, .inr (5, [.ref an1_keys_cells])), (an1_keys_cells, .inl (tt 0, 4, .inl q0.2.2.2.2.2.2.2.1)), (an2, .inr (6, [.ref an2_words])), (an2_words, .inl (tt 1, 40, .inr (.inl q1))), (an3, .inr (6, [.ref an3_words])), (an3_words, .inl (tt 1, 40, .inr (.inl q2))), (an4, .inr (5, [.ref an4_cells])), (an4_cells, .inl (tt 0, 5, .inl q3)), (an5, .inr (5, [.ref an5_cells])), (an5_cells, .inl (tt 0, 5, .inl q4))]) (z_goI (wc := [(an6, .inr (5, [.null]))]) (As := [.int (2560 : Int32)]) (rest := [.ref an6, .ref ah]) ⟨hx, hb, hml, hown, hts⟩ hK hN hO hP hD (mX6_initN2560 l G tt H.size an6 q5 hc_q5) (cwI 1 hts gX4_init_X6_init rfl rfl rfl (hts (.initialized RX6) (List.mem_of_getElem? (i := 15) rfl)) (hts (.methodLink RX4 30 yX6_init) (List.mem_of_getElem? (i := 51) rfl)) (hts (.instanceMethod yX6_init) (List.mem_of_getElem? (i := 40) rfl)) rfl (by decide +kernel) ⟨Nat.le_of_ble_eq_true rfl, Nat.le_of_ble_eq_true rfl⟩) [25] rfl (by decide +kernel) rfl hl.1 rfl (Nat.le_of_ble_eq_true rfl) dX4_init_69 ⟨Nat.le_of_ble_eq_true rfl, Nat.le_of_ble_eq_true rfl⟩) hP hD hS hA [25] [0, 1, 2, 3, 4, 5, 6, 7, 8, 9, 10, 11, 12, 13, 14, 15, 16, 17, 18, 19, 20, 21, 22, 23, 24] rfl rfl (by decide +kernel) (by decide +kernel) (fun an6_cells H locs hw hP hD hS => ?_)
  refine va_putF (D := G) (ci := 3) (v := .ref an6) (ty := (.object "LeapTables$Ints")) (C := RX4) (T := TX4) (N := 9) hx hb hts hiX4 tyX4 tyX4_ok nmX4 hown hK hP hD hS 0 rfl rfl 5 (by decide) (hts (.fieldLink RX4 40 "LeapTables$Growth" "reasonTotals" "LLeapTables$Ints;") (List.mem_of_getElem? (i := 18) rfl)) (fun _ h9 => h9) rfl hin rfl (by decide +kernel) rfl rfl (Nat.le_of_ble_eq_true rfl) dX4_init_72 (fun H locs hP hD hS => ?_)
  refine lv_aload_n hx hb dX4_init_75 rfl (lv_at hl 0 rfl) ?_
  refine va_new (D := G) (C := RX6) (T := TX6) (N := 1) (ci := 5) (fs := [.null]) hx hb hts hiX6 tyX6 tyX6_ok hown (hts (.classLink RX4 28 RX6) (List.mem_of_getElem? (i := 13) rfl)) (hts (.instantiable RX6 1) (List.mem_of_getElem? (i := 14) rfl)) (hts (.initialized RX6) (List.mem_of_getElem? (i := 15) rfl)) hK hP hD hS hA rfl (fun j hj => match j, hj with | 0, _ => rfl | (n9 + 1), h9 => absurd h9 (by omega)) (Nat.le_of_ble_eq_true rfl) (Nat.le_of_ble_eq_true rfl) dX4_init_76 (fun an7 H hP hD hS => ?_)
  refine lv_dup hx hb dX4_init_79 rfl ?_
  refine lv_iconst (v := (5 : Int32)) hx hb dX4_init_80 (by decide) ?_
  obtain ⟨q6, hc_q6, hF⟩ := z_bind hF
  refine z_backC (wr := [(ah, .inr (3, [.ref an1, .ref an2, .ref an3, .ref an4, .ref an5, .ref an6, .null, .int (0 : Int32), .int (0 : Int32)])), (an1, .inr (7, [.ref an1_atoms, .ref an1_sequence, .ref an1_askers, .ref an1_reached, .ref an1_tellers, .ref an1_turns, .ref an1_keys, .int q0.2.2.2.2.2.2.2.2.1, .int q0.2.2.2.2.2.2.2.2.2.1, .int q0.2.2.2.2.2.2.2.2.2.2.1, .int q0.2.2.2.2.2.2.2.2.2.2.2.1, .int q0.2.2.2.2.2.2.2.2.2.2.2.2])), (an1_atoms, .inr (1, [.ref an1_atoms_codes, .int q0.2.1])), (an1_atoms_codes, .inr (5, [.ref an1_atoms_codes_cells])), (an1_atoms_codes_cells, .inl (tt 0, 5, .inl q0.1)), (an1_sequence, .inr (5, [.ref an1_sequence_cells])), (an1_sequence_cells, .inl (tt 0, 4, .inl q0.2.2.1)), (an1_askers, .inr (5, [.ref an1_askers_cells])), (an1_askers_cells, .inl (tt 0, 4, .inl q0.2.2.2.1)), (an1_reached, .inr (5, [.ref an1_reached_cells])), (an1_reached_cells, .inl (tt 0, 4, .inl q0.2.2.2.2.1)), (an1_tellers, .inr (5, [.ref an1_tellers_cells])), (an1_tellers_cells, .inl (tt 0, 4, .inl q0.2.2.2.2.2.1)), (an1_turns, .inr (5, [.ref an1_turns_cells])), (an1_turns_cells, .inl (tt 0, 4, .inl q0.2.2.2.2.2.2.1)), (an1_keys, .inr (5, [.ref an1_keys_cells])), (an1_keys_cells, .inl (tt 0, 4, .inl q0.2.2.2.2.2.2.2.1)), (an2, .inr (6, [.ref an2_words])), (an2_words, .inl (tt 1, 40, .inr (.inl q1))), (an3, .inr (6, [.ref an3_words])), (an3_words, .inl (tt 1, 40, .inr (.inl q2))), (an4, .inr (5, [.ref an4_cells])), (an4_cells, .inl (tt 0, 5, .inl q3)), (an5, .inr (5, [.ref an5_cells])), (an5_cells, .inl (tt 0, 5, .inl q4)), (an6, .inr (5, [.ref an6_cells])), (an6_cells, .inl (tt 0, 2560, .inl q5))]) (z_goI (wc := [(an7, .inr (5, [.null]))]) (As := [.int (5 : Int32)]) (rest := [.ref an7, .ref ah]) ⟨hx, hb, hml, hown, hts⟩ hK hN hO hP hD (mX6_initN5 l G tt H.size an7 q6 hc_q6) (cwI 1 hts gX4_init_X6_init rfl rfl rfl (hts (.initialized RX6) (List.mem_of_getElem? (i := 15) rfl)) (hts (.methodLink RX4 30 yX6_init) (List.mem_of_getElem? (i := 51) rfl)) (hts (.instanceMethod yX6_init) (List.mem_of_getElem? (i := 40) rfl)) rfl (by decide +kernel) ⟨Nat.le_of_ble_eq_true rfl, Nat.le_of_ble_eq_true rfl⟩) [27] rfl (by decide +kernel) rfl hl.1 rfl (Nat.le_of_ble_eq_true rfl) dX4_init_81 ⟨Nat.le_of_ble_eq_true rfl, Nat.le_of_ble_eq_true rfl⟩) hP hD hS hA [27] [0, 1, 2, 3, 4, 5, 6, 7, 8, 9, 10, 11, 12, 13, 14, 15, 16, 17, 18, 19, 20, 21, 22, 23, 24, 25, 26] rfl rfl (by decide +kernel) (by decide +kernel) (fun an7_cells H locs hw hP hD hS => ?_)
  refine va_putF (D := G) (ci := 3) (v := .ref an7) (ty := (.object "LeapTables$Ints")) (C := RX4) (T := TX4) (N := 9) hx hb hts hiX4 tyX4 tyX4_ok nmX4 hown hK hP hD hS 0 rfl rfl 6 (by decide) (hts (.fieldLink RX4 43 "LeapTables$Growth" "fired" "LLeapTables$Ints;") (List.mem_of_getElem? (i := 19) rfl)) (fun _ h9 => h9) rfl hin rfl (by decide +kernel) rfl rfl (Nat.le_of_ble_eq_true rfl) dX4_init_84 (fun H locs hP hD hS => ?_)
  have hPD : zPD G A [(ah, .inr (3, [.ref an1, .ref an2, .ref an3, .ref an4, .ref an5, .ref an6, .ref an7, .int (0 : Int32), .int (0 : Int32)])), (an1, .inr (7, [.ref an1_atoms, .ref an1_sequence, .ref an1_askers, .ref an1_reached, .ref an1_tellers, .ref an1_turns, .ref an1_keys, .int q0.2.2.2.2.2.2.2.2.1, .int q0.2.2.2.2.2.2.2.2.2.1, .int q0.2.2.2.2.2.2.2.2.2.2.1, .int q0.2.2.2.2.2.2.2.2.2.2.2.1, .int q0.2.2.2.2.2.2.2.2.2.2.2.2])), (an1_atoms, .inr (1, [.ref an1_atoms_codes, .int q0.2.1])), (an1_atoms_codes, .inr (5, [.ref an1_atoms_codes_cells])), (an1_atoms_codes_cells, .inl (tt 0, 5, .inl q0.1)), (an1_sequence, .inr (5, [.ref an1_sequence_cells])), (an1_sequence_cells, .inl (tt 0, 4, .inl q0.2.2.1)), (an1_askers, .inr (5, [.ref an1_askers_cells])), (an1_askers_cells, .inl (tt 0, 4, .inl q0.2.2.2.1)), (an1_reached, .inr (5, [.ref an1_reached_cells])), (an1_reached_cells, .inl (tt 0, 4, .inl q0.2.2.2.2.1)), (an1_tellers, .inr (5, [.ref an1_tellers_cells])), (an1_tellers_cells, .inl (tt 0, 4, .inl q0.2.2.2.2.2.1)), (an1_turns, .inr (5, [.ref an1_turns_cells])), (an1_turns_cells, .inl (tt 0, 4, .inl q0.2.2.2.2.2.2.1)), (an1_keys, .inr (5, [.ref an1_keys_cells])), (an1_keys_cells, .inl (tt 0, 4, .inl q0.2.2.2.2.2.2.2.1)), (an2, .inr (6, [.ref an2_words])), (an2_words, .inl (tt 1, 40, .inr (.inl q1))), (an3, .inr (6, [.ref an3_words])), (an3_words, .inl (tt 1, 40, .inr (.inl q2))), (an4, .inr (5, [.ref an4_cells])), (an4_cells, .inl (tt 0, 5, .inl q3)), (an5, .inr (5, [.ref an5_cells])), (an5_cells, .inl (tt 0, 5, .inl q4)), (an6, .inr (5, [.ref an6_cells])), (an6_cells, .inl (tt 0, 2560, .inl q5)), (an7, .inr (5, [.ref an7_cells])), (an7_cells, .inl (tt 0, 5, .inl q6))] H := ⟨hP.sub [0, 1, 2, 3, 4, 5, 6, 7, 8, 9, 10, 11, 12, 13, 14, 15, 16, 17, 18, 19, 20, 21, 22, 23, 24, 25, 26, 27, 28] rfl, hD.sub [0, 1, 2, 3, 4, 5, 6, 7, 8, 9, 10, 11, 12, 13, 14, 15, 16, 17, 18, 19, 20, 21, 22, 23, 24, 25, 26, 27, 28] (by decide +kernel) rfl⟩
  have hP9 := hPD.1
  have hD9 := hPD.2
  have hR := Option.some.inj hF
  subst hR
  exact W.vret hx hb hr (fun t ht hW => ⟨⟨(an1, an1_atoms, an1_atoms_codes, an1_atoms_codes_cells, an1_sequence, an1_sequence_cells, an1_askers, an1_askers_cells, an1_reached, an1_reached_cells, an1_tellers, an1_tellers_cells, an1_turns, an1_turns_cells, an1_keys, an1_keys_cells, an2, an2_words, an3, an3_words, an4, an4_cells, an5, an5_cells, an6, an6_cells, an7, an7_cells), rfl, trivial, by rw [ht]; exact hP9, va_K.moved hW.alike hK, hD9⟩, hS.F ht⟩) hS.2.2 dX4_init_87
