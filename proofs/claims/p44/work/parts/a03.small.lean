/-! Ints, Atom, Rows: what their methods do, and that they do it -/
set_option maxHeartbeats 8000000 in
set_option maxRecDepth 100000 in
theorem mX6_at (l : Launch) (G : va_G) (tt : Nat → ClassId) (sz : Nat) (n : Nat) (ah : Nat) (ah_cells : Nat) (vh_cells : Nat → Int32) (p1 : Int32) (RR : Int32) (hF : fX6_at n vh_cells p1 = some RR) : Met l yX6_at wsX6_at ({ frames := 0, cells := 0, slots := 0, locals := 0 } : Room) (zPre G (zTy tt) [.ref ah, .int p1] sz [(ah, .inr (5, [.ref ah_cells])), (ah_cells, .inl (tt 0, n, .inl vh_cells))]) (va_Qi (fun (r : Int32) (_ : Unit) => r = RR) (zAt G (zTy tt) (va_A [(ah, .inr (5, [.ref ah_cells])), (ah_cells, .inl (tt 0, n, .inl vh_cells))] sz) (fun _ : Unit => [(ah, .inr (5, [.ref ah_cells])), (ah_cells, .inl (tt 0, n, .inl vh_cells))])) (va_A [(ah, .inr (5, [.ref ah_cells])), (ah_cells, .inl (tt 0, n, .inl vh_cells))] sz)) 0 0 (va_A [(ah, .inr (5, [.ref ah_cells])), (ah_cells, .inl (tt 0, n, .inl vh_cells))] sz) := by
  refine Met.ofW (cc := cX6_at) (maxL := 2) (ret := (some .int)) (by decide +kernel) rfl ?_
  intro p e s m args below meth c s₁ B hml hv
  obtain ⟨rfl, hsz, hP, hK, hD0, hN⟩ := hv
  have hx := B.exec
  have hb := B.bytes
  have hr := B.returns
  have hts := atoms_spec (ws := wsX6_at) B.pre
  have hown : s.vm.findClass RX6 = some m.cls := findClass_of_methodNamed B.named
  have hlocks := B.notSynchronized
  subst hsz
  have hD := hD0.self (sz := s.heap.size)
  generalize hAe : va_A [(ah, .inr (5, [.ref ah_cells])), (ah_cells, .inl (tt 0, n, .inl vh_cells))] s.heap.size = A at hD ⊢
  have hA : ∀ q : Nat, s.heap.size ≤ q → A q := fun q h => by rw [← hAe]; exact Or.inr h
  have hP : va_P G vwCl [(ah, .inr (5, [.ref ah_cells])), (ah_cells, .inl (tt 0, n, .inl vh_cells))] s.heap := hP
  have hiX6 : ∀ w ∈ wsX60, w ∈ wsX6_at := by decide +kernel
  have hl := lv_entry ([.ref ah, .int p1]) (n := 2) (Nat.le_of_ble_eq_true rfl)
  rw [lg_entry_eq]
  generalize (lg_sl ([.ref ah, .int p1]) ++ List.replicate (2 - (lg_sl ([.ref ah, .int p1])).length) Slot.unset).toArray = ls at hl ⊢
  have hl : lv_has ls 2 [(0, .ref ah), (1, .int p1)] := hl
  obtain ⟨H, hHe⟩ : ∃ H : Heap, s.heap = H := ⟨_, rfl⟩
  have hS : va_S A s.heap H [] := by rw [← hHe]; exact va_S.rf
  rw [hHe] at hP ⊢
  unfold fX6_at at hF
  refine lv_iload_n hx hb dX6_at_0 rfl (lv_at hl 1 rfl) ?_
  refine lv_if_lt (tgt := 22) hx hb dX6_at_1 (by decide) (fun c_1 => ?_) (fun c_1 => ?_)
  · have hF := z_t c_1 hF
    refine lv_iconst (v := (0 : Int32)) hx hb dX6_at_22 (by decide) ?_
    have hPD : zPD G A [(ah, .inr (5, [.ref ah_cells])), (ah_cells, .inl (tt 0, n, .inl vh_cells))] H := ⟨hP.sub [0, 1] rfl, hD.sub [0, 1] (by decide +kernel) rfl⟩
    have hP9 := hPD.1
    have hD9 := hPD.2
    have hR := Option.some.inj hF
    exact W.iret (v := (0 : Int32)) hx hb hr (fun t ht hW => ⟨⟨(0 : Int32), (), rfl, (by subst hR; rfl), by rw [ht]; exact hP9, va_K.moved hW.alike hK, hD9⟩, hS.F ht⟩) hS.2.2 dX6_at_23
  · have hF := z_f c_1 hF
    refine lv_iload_n hx hb dX6_at_4 rfl (lv_at hl 1 rfl) ?_
    refine lv_aload_n hx hb dX6_at_5 rfl (lv_at hl 0 rfl) ?_
    refine va_get (D := G) (ci := 5) (v := .ref ah_cells) (C := RX6) (T := TX6) (N := 1) hx hb hts hiX6 hown hK hP 0 rfl rfl 0 (by decide) (hts (.fieldLink RX6 7 "LeapTables$Ints" "cells" "[I") (List.mem_of_getElem? (i := 1) rfl)) (fun _ h9 => h9) rfl dX6_at_6 ?_
    refine va_alen (v := (Int32.ofNat n)) hx hb hK hP 1 0 rfl rfl (by first | rfl | decide) dX6_at_9 ?_
    refine lv_icmp_ge (tgt := 22) hx hb dX6_at_10 (by decide) (fun c_10 => ?_) (fun c_10 => ?_)
    · have hF := z_t c_10 hF
      refine lv_iconst (v := (0 : Int32)) hx hb dX6_at_22 (by decide) ?_
      have hPD : zPD G A [(ah, .inr (5, [.ref ah_cells])), (ah_cells, .inl (tt 0, n, .inl vh_cells))] H := ⟨hP.sub [0, 1] rfl, hD.sub [0, 1] (by decide +kernel) rfl⟩
      have hP9 := hPD.1
      have hD9 := hPD.2
      have hR := Option.some.inj hF
      exact W.iret (v := (0 : Int32)) hx hb hr (fun t ht hW => ⟨⟨(0 : Int32), (), rfl, (by subst hR; rfl), by rw [ht]; exact hP9, va_K.moved hW.alike hK, hD9⟩, hS.F ht⟩) hS.2.2 dX6_at_23
    · have hF := z_f c_10 hF
      refine lv_aload_n hx hb dX6_at_13 rfl (lv_at hl 0 rfl) ?_
      refine va_get (D := G) (ci := 5) (v := .ref ah_cells) (C := RX6) (T := TX6) (N := 1) hx hb hts hiX6 hown hK hP 0 rfl rfl 0 (by decide) (hts (.fieldLink RX6 7 "LeapTables$Ints" "cells" "[I") (List.mem_of_getElem? (i := 1) rfl)) (fun _ h9 => h9) rfl dX6_at_14 ?_
      refine lv_iload_n hx hb dX6_at_17 rfl (lv_at hl 1 rfl) ?_
      obtain ⟨h_18, hF⟩ := z_in hF
      refine va_iald hx hb hK hP 1 0 rfl rfl h_18 dX6_at_18 ?_
      refine lv_goto (tgt := 23) hx hb dX6_at_19 (by decide) ?_
      have hPD : zPD G A [(ah, .inr (5, [.ref ah_cells])), (ah_cells, .inl (tt 0, n, .inl vh_cells))] H := ⟨hP.sub [0, 1] rfl, hD.sub [0, 1] (by decide +kernel) rfl⟩
      have hP9 := hPD.1
      have hD9 := hPD.2
      have hR := Option.some.inj hF
      exact W.iret (v := (vh_cells p1.toNatClampNeg)) hx hb hr (fun t ht hW => ⟨⟨(vh_cells p1.toNatClampNeg), (), rfl, (by subst hR; rfl), by rw [ht]; exact hP9, va_K.moved hW.alike hK, hD9⟩, hS.F ht⟩) hS.2.2 dX6_at_23

set_option maxHeartbeats 8000000 in
set_option maxRecDepth 100000 in
theorem mX6_put (l : Launch) (G : va_G) (tt : Nat → ClassId) (sz : Nat) (n : Nat) (ah : Nat) (ah_cells : Nat) (vh_cells : Nat → Int32) (p1 : Int32) (p2 : Int32) (RR : (Nat → Int32)) (hF : fX6_put n p1 p2 vh_cells = some RR) : Met l yX6_put wsX6_put ({ frames := 0, cells := 0, slots := 0, locals := 0 } : Room) (zPre G (zTy tt) [.ref ah, .int p1, .int p2] sz [(ah, .inr (5, [.ref ah_cells])), (ah_cells, .inl (tt 0, n, .inl vh_cells))]) (va_Qv (fun u : (Nat → Int32) => u = RR) (zAt G (zTy tt) (va_A [(ah, .inr (5, [.ref ah_cells])), (ah_cells, .inl (tt 0, n, .inl vh_cells))] sz) (fun u : (Nat → Int32) => [(ah, .inr (5, [.ref ah_cells])), (ah_cells, .inl (tt 0, n, .inl u))])) (va_A [(ah, .inr (5, [.ref ah_cells])), (ah_cells, .inl (tt 0, n, .inl vh_cells))] sz)) 0 0 (va_A [(ah, .inr (5, [.ref ah_cells])), (ah_cells, .inl (tt 0, n, .inl vh_cells))] sz) := by
  refine Met.ofW (cc := cX6_put) (maxL := 3) (ret := none) (by decide +kernel) rfl ?_
  intro p e s m args below meth c s₁ B hml hv
  obtain ⟨rfl, hsz, hP, hK, hD0, hN⟩ := hv
  have hx := B.exec
  have hb := B.bytes
  have hr := B.returns
  have hts := atoms_spec (ws := wsX6_put) B.pre
  have hown : s.vm.findClass RX6 = some m.cls := findClass_of_methodNamed B.named
  have hlocks := B.notSynchronized
  subst hsz
  have hD := hD0.self (sz := s.heap.size)
  generalize hAe : va_A [(ah, .inr (5, [.ref ah_cells])), (ah_cells, .inl (tt 0, n, .inl vh_cells))] s.heap.size = A at hD ⊢
  have hA : ∀ q : Nat, s.heap.size ≤ q → A q := fun q h => by rw [← hAe]; exact Or.inr h
  have hP : va_P G vwCl [(ah, .inr (5, [.ref ah_cells])), (ah_cells, .inl (tt 0, n, .inl vh_cells))] s.heap := hP
  have hiX6 : ∀ w ∈ wsX60, w ∈ wsX6_put := by decide +kernel
  have hl := lv_entry ([.ref ah, .int p1, .int p2]) (n := 3) (Nat.le_of_ble_eq_true rfl)
  rw [lg_entry_eq]
  generalize (lg_sl ([.ref ah, .int p1, .int p2]) ++ List.replicate (3 - (lg_sl ([.ref ah, .int p1, .int p2])).length) Slot.unset).toArray = ls at hl ⊢
  have hl : lv_has ls 3 [(0, .ref ah), (1, .int p1), (2, .int p2)] := hl
  obtain ⟨H, hHe⟩ : ∃ H : Heap, s.heap = H := ⟨_, rfl⟩
  have hS : va_S A s.heap H [] := by rw [← hHe]; exact va_S.rf
  rw [hHe] at hP ⊢
  unfold fX6_put at hF
  refine lv_iload_n hx hb dX6_put_0 rfl (lv_at hl 1 rfl) ?_
  refine lv_if_lt (tgt := 20) hx hb dX6_put_1 (by decide) (fun c_1 => ?_) (fun c_1 => ?_)
  · have hF := z_t c_1 hF
    have hPD : zPD G A [(ah, .inr (5, [.ref ah_cells])), (ah_cells, .inl (tt 0, n, .inl vh_cells))] H := ⟨hP.sub [0, 1] rfl, hD.sub [0, 1] (by decide +kernel) rfl⟩
    have hP9 := hPD.1
    have hD9 := hPD.2
    have hR := Option.some.inj hF
    exact W.vret hx hb hr (fun t ht hW => ⟨⟨(vh_cells), rfl, (by subst hR; rfl), by rw [ht]; exact hP9, va_K.moved hW.alike hK, hD9⟩, hS.F ht⟩) hS.2.2 dX6_put_20
  · have hF := z_f c_1 hF
    refine lv_iload_n hx hb dX6_put_4 rfl (lv_at hl 1 rfl) ?_
    refine lv_aload_n hx hb dX6_put_5 rfl (lv_at hl 0 rfl) ?_
    refine va_get (D := G) (ci := 5) (v := .ref ah_cells) (C := RX6) (T := TX6) (N := 1) hx hb hts hiX6 hown hK hP 0 rfl rfl 0 (by decide) (hts (.fieldLink RX6 7 "LeapTables$Ints" "cells" "[I") (List.mem_of_getElem? (i := 1) rfl)) (fun _ h9 => h9) rfl dX6_put_6 ?_
    refine va_alen (v := (Int32.ofNat n)) hx hb hK hP 1 0 rfl rfl (by first | rfl | decide) dX6_put_9 ?_
    refine lv_icmp_ge (tgt := 20) hx hb dX6_put_10 (by decide) (fun c_10 => ?_) (fun c_10 => ?_)
    · have hF := z_t c_10 hF
      have hPD : zPD G A [(ah, .inr (5, [.ref ah_cells])), (ah_cells, .inl (tt 0, n, .inl vh_cells))] H := ⟨hP.sub [0, 1] rfl, hD.sub [0, 1] (by decide +kernel) rfl⟩
      have hP9 := hPD.1
      have hD9 := hPD.2
      have hR := Option.some.inj hF
      exact W.vret hx hb hr (fun t ht hW => ⟨⟨(vh_cells), rfl, (by subst hR; rfl), by rw [ht]; exact hP9, va_K.moved hW.alike hK, hD9⟩, hS.F ht⟩) hS.2.2 dX6_put_20
    · have hF := z_f c_10 hF
      refine lv_aload_n hx hb dX6_put_13 rfl (lv_at hl 0 rfl) ?_
      refine va_get (D := G) (ci := 5) (v := .ref ah_cells) (C := RX6) (T := TX6) (N := 1) hx hb hts hiX6 hown hK hP 0 rfl rfl 0 (by decide) (hts (.fieldLink RX6 7 "LeapTables$Ints" "cells" "[I") (List.mem_of_getElem? (i := 1) rfl)) (fun _ h9 => h9) rfl dX6_put_14 ?_
      refine lv_iload_n hx hb dX6_put_17 rfl (lv_at hl 1 rfl) ?_
      refine lv_iload_n hx hb dX6_put_18 rfl (lv_at hl 2 rfl) ?_
      obtain ⟨h_19, hF⟩ := z_in hF
      refine va_iast hx hb hK hP hD hS 1 0 rfl rfl h_19 dX6_put_19 (fun H locs hP hD hS => ?_)
      have hPD : zPD G A [(ah, .inr (5, [.ref ah_cells])), (ah_cells, .inl (tt 0, n, .inl (upd vh_cells p1.toNatClampNeg p2)))] H := ⟨hP.sub [0, 1] rfl, hD.sub [0, 1] (by decide +kernel) rfl⟩
      have hP9 := hPD.1
      have hD9 := hPD.2
      have hR := Option.some.inj hF
      exact W.vret hx hb hr (fun t ht hW => ⟨⟨((upd vh_cells p1.toNatClampNeg p2)), rfl, (by subst hR; rfl), by rw [ht]; exact hP9, va_K.moved hW.alike hK, hD9⟩, hS.F ht⟩) hS.2.2 dX6_put_20

set_option maxHeartbeats 8000000 in
set_option maxRecDepth 100000 in
theorem mX1_withNot (l : Launch) (G : va_G) (tt : Nat → ClassId) (sz : Nat) (p0 : Int32) (RR : Int32) (hF : fX1_withNot p0 = some RR) : Met l yX1_withNot wsX1_withNot ({ frames := 0, cells := 0, slots := 0, locals := 0 } : Room) (zPre G (zTy tt) [.int p0] sz []) (va_Qi (fun (r : Int32) (_ : Unit) => r = RR) (zAt G (zTy tt) (va_A [] sz) (fun _ : Unit => [])) (va_A [] sz)) 0 0 (va_A [] sz) := by
  refine Met.ofW (cc := cX1_withNot) (maxL := 1) (ret := (some .int)) (by decide +kernel) rfl ?_
  intro p e s m args below meth c s₁ B hml hv
  obtain ⟨rfl, hsz, hP, hK, hD0, hN⟩ := hv
  have hx := B.exec
  have hb := B.bytes
  have hr := B.returns
  have hts := atoms_spec (ws := wsX1_withNot) B.pre
  have hown : s.vm.findClass RX1 = some m.cls := findClass_of_methodNamed B.named
  have hlocks := B.notSynchronized
  subst hsz
  have hD := hD0.self (sz := s.heap.size)
  generalize hAe : va_A [] s.heap.size = A at hD ⊢
  have hA : ∀ q : Nat, s.heap.size ≤ q → A q := fun q h => by rw [← hAe]; exact Or.inr h
  have hP : va_P G vwCl [] s.heap := hP
  have hl := lv_entry ([.int p0]) (n := 1) (Nat.le_of_ble_eq_true rfl)
  rw [lg_entry_eq]
  generalize (lg_sl ([.int p0]) ++ List.replicate (1 - (lg_sl ([.int p0])).length) Slot.unset).toArray = ls at hl ⊢
  have hl : lv_has ls 1 [(0, .int p0)] := hl
  obtain ⟨H, hHe⟩ : ∃ H : Heap, s.heap = H := ⟨_, rfl⟩
  have hS : va_S A s.heap H [] := by rw [← hHe]; exact va_S.rf
  rw [hHe] at hP ⊢
  unfold fX1_withNot at hF
  refine lv_iload_n hx hb dX1_withNot_0 rfl (lv_at hl 0 rfl) ?_
  refine lv_ldc (v := (32768 : Int32)) hx hb hown (hts (.constant RX1 11 (32768)) (List.mem_of_getElem? (i := 1) rfl)) dX1_withNot_1 ?_
  refine lv_ior hx hb dX1_withNot_3 ?_
  have hPD : zPD G A [] H := ⟨hP.sub [] rfl, hD.sub [] (by decide +kernel) rfl⟩
  have hP9 := hPD.1
  have hD9 := hPD.2
  have hR := Option.some.inj hF
  exact W.iret (v := (p0 ||| (32768 : Int32))) hx hb hr (fun t ht hW => ⟨⟨(p0 ||| (32768 : Int32)), (), rfl, (by subst hR; rfl), by rw [ht]; exact hP9, va_K.moved hW.alike hK, hD9⟩, hS.F ht⟩) hS.2.2 dX1_withNot_4

set_option maxHeartbeats 8000000 in
set_option maxRecDepth 100000 in
theorem mX1_isNot (l : Launch) (G : va_G) (tt : Nat → ClassId) (sz : Nat) (p0 : Int32) (RR : Bool) (hF : fX1_isNot p0 = some RR) : Met l yX1_isNot wsX1_isNot ({ frames := 0, cells := 0, slots := 0, locals := 0 } : Room) (zPre G (zTy tt) [.int p0] sz []) (va_Qi (fun (r : Int32) (_ : Unit) => r = bI RR) (zAt G (zTy tt) (va_A [] sz) (fun _ : Unit => [])) (va_A [] sz)) 0 0 (va_A [] sz) := by
  refine Met.ofW (cc := cX1_isNot) (maxL := 1) (ret := (some .boolean)) (by decide +kernel) rfl ?_
  intro p e s m args below meth c s₁ B hml hv
  obtain ⟨rfl, hsz, hP, hK, hD0, hN⟩ := hv
  have hx := B.exec
  have hb := B.bytes
  have hr := B.returns
  have hts := atoms_spec (ws := wsX1_isNot) B.pre
  have hown : s.vm.findClass RX1 = some m.cls := findClass_of_methodNamed B.named
  have hlocks := B.notSynchronized
  subst hsz
  have hD := hD0.self (sz := s.heap.size)
  generalize hAe : va_A [] s.heap.size = A at hD ⊢
  have hA : ∀ q : Nat, s.heap.size ≤ q → A q := fun q h => by rw [← hAe]; exact Or.inr h
  have hP : va_P G vwCl [] s.heap := hP
  have hl := lv_entry ([.int p0]) (n := 1) (Nat.le_of_ble_eq_true rfl)
  rw [lg_entry_eq]
  generalize (lg_sl ([.int p0]) ++ List.replicate (1 - (lg_sl ([.int p0])).length) Slot.unset).toArray = ls at hl ⊢
  have hl : lv_has ls 1 [(0, .int p0)] := hl
  obtain ⟨H, hHe⟩ : ∃ H : Heap, s.heap = H := ⟨_, rfl⟩
  have hS : va_S A s.heap H [] := by rw [← hHe]; exact va_S.rf
  rw [hHe] at hP ⊢
  unfold fX1_isNot at hF
  refine lv_iload_n hx hb dX1_isNot_0 rfl (lv_at hl 0 rfl) ?_
  refine lv_ldc (v := (32768 : Int32)) hx hb hown (hts (.constant RX1 11 (32768)) (List.mem_of_getElem? (i := 1) rfl)) dX1_isNot_1 ?_
  refine lv_iand hx hb dX1_isNot_3 ?_
  refine lv_if_eq (tgt := 11) hx hb dX1_isNot_4 (by decide) (fun c_4 => ?_) (fun c_4 => ?_)
  · have hF := z_t c_4 hF
    refine lv_iconst (v := (0 : Int32)) hx hb dX1_isNot_11 (by decide) ?_
    have hPD : zPD G A [] H := ⟨hP.sub [] rfl, hD.sub [] (by decide +kernel) rfl⟩
    have hP9 := hPD.1
    have hD9 := hPD.2
    have hR := Option.some.inj hF
    exact W.zret (v := (0 : Int32)) hx hb hr rfl (fun t ht hW => ⟨⟨(0 : Int32), (), rfl, (by subst hR; rfl), by rw [ht]; exact hP9, va_K.moved hW.alike hK, hD9⟩, hS.F ht⟩) hS.2.2 dX1_isNot_12
  · have hF := z_f c_4 hF
    refine lv_iconst (v := (1 : Int32)) hx hb dX1_isNot_7 (by decide) ?_
    refine lv_goto (tgt := 12) hx hb dX1_isNot_8 (by decide) ?_
    have hPD : zPD G A [] H := ⟨hP.sub [] rfl, hD.sub [] (by decide +kernel) rfl⟩
    have hP9 := hPD.1
    have hD9 := hPD.2
    have hR := Option.some.inj hF
    exact W.zret (v := (1 : Int32)) hx hb hr rfl (fun t ht hW => ⟨⟨(1 : Int32), (), rfl, (by subst hR; rfl), by rw [ht]; exact hP9, va_K.moved hW.alike hK, hD9⟩, hS.F ht⟩) hS.2.2 dX1_isNot_12

set_option maxHeartbeats 8000000 in
set_option maxRecDepth 100000 in
theorem mX1_table (l : Launch) (G : va_G) (tt : Nat → ClassId) (sz : Nat) (p0 : Int32) (RR : Int32) (hF : fX1_table p0 = some RR) : Met l yX1_table wsX1_table ({ frames := 0, cells := 0, slots := 0, locals := 0 } : Room) (zPre G (zTy tt) [.int p0] sz []) (va_Qi (fun (r : Int32) (_ : Unit) => r = RR) (zAt G (zTy tt) (va_A [] sz) (fun _ : Unit => [])) (va_A [] sz)) 0 0 (va_A [] sz) := by
  refine Met.ofW (cc := cX1_table) (maxL := 1) (ret := (some .int)) (by decide +kernel) rfl ?_
  intro p e s m args below meth c s₁ B hml hv
  obtain ⟨rfl, hsz, hP, hK, hD0, hN⟩ := hv
  have hx := B.exec
  have hb := B.bytes
  have hr := B.returns
  have hts := atoms_spec (ws := wsX1_table) B.pre
  have hown : s.vm.findClass RX1 = some m.cls := findClass_of_methodNamed B.named
  have hlocks := B.notSynchronized
  subst hsz
  have hD := hD0.self (sz := s.heap.size)
  generalize hAe : va_A [] s.heap.size = A at hD ⊢
  have hA : ∀ q : Nat, s.heap.size ≤ q → A q := fun q h => by rw [← hAe]; exact Or.inr h
  have hP : va_P G vwCl [] s.heap := hP
  have hl := lv_entry ([.int p0]) (n := 1) (Nat.le_of_ble_eq_true rfl)
  rw [lg_entry_eq]
  generalize (lg_sl ([.int p0]) ++ List.replicate (1 - (lg_sl ([.int p0])).length) Slot.unset).toArray = ls at hl ⊢
  have hl : lv_has ls 1 [(0, .int p0)] := hl
  obtain ⟨H, hHe⟩ : ∃ H : Heap, s.heap = H := ⟨_, rfl⟩
  have hS : va_S A s.heap H [] := by rw [← hHe]; exact va_S.rf
  rw [hHe] at hP ⊢
  unfold fX1_table at hF
  refine lv_iload_n hx hb dX1_table_0 rfl (lv_at hl 0 rfl) ?_
  refine lv_bipush (v := (7 : Int32)) hx hb dX1_table_1 (by decide) ?_
  refine lv_iand hx hb dX1_table_3 ?_
  have hPD : zPD G A [] H := ⟨hP.sub [] rfl, hD.sub [] (by decide +kernel) rfl⟩
  have hP9 := hPD.1
  have hD9 := hPD.2
  have hR := Option.some.inj hF
  exact W.iret (v := (p0 &&& (7 : Int32))) hx hb hr (fun t ht hW => ⟨⟨(p0 &&& (7 : Int32)), (), rfl, (by subst hR; rfl), by rw [ht]; exact hP9, va_K.moved hW.alike hK, hD9⟩, hS.F ht⟩) hS.2.2 dX1_table_4

set_option maxHeartbeats 8000000 in
set_option maxRecDepth 100000 in
theorem mX1_width (l : Launch) (G : va_G) (tt : Nat → ClassId) (sz : Nat) (p0 : Int32) (RR : Int32) (hF : fX1_width p0 = some RR) : Met l yX1_width wsX1_width ({ frames := 0, cells := 0, slots := 0, locals := 0 } : Room) (zPre G (zTy tt) [.int p0] sz []) (va_Qi (fun (r : Int32) (_ : Unit) => r = RR) (zAt G (zTy tt) (va_A [] sz) (fun _ : Unit => [])) (va_A [] sz)) 0 0 (va_A [] sz) := by
  refine Met.ofW (cc := cX1_width) (maxL := 1) (ret := (some .int)) (by decide +kernel) rfl ?_
  intro p e s m args below meth c s₁ B hml hv
  obtain ⟨rfl, hsz, hP, hK, hD0, hN⟩ := hv
  have hx := B.exec
  have hb := B.bytes
  have hr := B.returns
  have hts := atoms_spec (ws := wsX1_width) B.pre
  have hown : s.vm.findClass RX1 = some m.cls := findClass_of_methodNamed B.named
  have hlocks := B.notSynchronized
  subst hsz
  have hD := hD0.self (sz := s.heap.size)
  generalize hAe : va_A [] s.heap.size = A at hD ⊢
  have hA : ∀ q : Nat, s.heap.size ≤ q → A q := fun q h => by rw [← hAe]; exact Or.inr h
  have hP : va_P G vwCl [] s.heap := hP
  have hl := lv_entry ([.int p0]) (n := 1) (Nat.le_of_ble_eq_true rfl)
  rw [lg_entry_eq]
  generalize (lg_sl ([.int p0]) ++ List.replicate (1 - (lg_sl ([.int p0])).length) Slot.unset).toArray = ls at hl ⊢
  have hl : lv_has ls 1 [(0, .int p0)] := hl
  obtain ⟨H, hHe⟩ : ∃ H : Heap, s.heap = H := ⟨_, rfl⟩
  have hS : va_S A s.heap H [] := by rw [← hHe]; exact va_S.rf
  rw [hHe] at hP ⊢
  unfold fX1_width at hF
  refine lv_iload_n hx hb dX1_width_0 rfl (lv_at hl 0 rfl) ?_
  refine lv_iconst (v := (3 : Int32)) hx hb dX1_width_1 (by decide) ?_
  refine lv_ishr hx hb dX1_width_2 ?_
  refine lv_iconst (v := (3 : Int32)) hx hb dX1_width_3 (by decide) ?_
  refine lv_iand hx hb dX1_width_4 ?_
  have hPD : zPD G A [] H := ⟨hP.sub [] rfl, hD.sub [] (by decide +kernel) rfl⟩
  have hP9 := hPD.1
  have hD9 := hPD.2
  have hR := Option.some.inj hF
  exact W.iret (v := ((p0 >>> ((3 : Int32) &&& 31)) &&& (3 : Int32))) hx hb hr (fun t ht hW => ⟨⟨((p0 >>> ((3 : Int32) &&& 31)) &&& (3 : Int32)), (), rfl, (by subst hR; rfl), by rw [ht]; exact hP9, va_K.moved hW.alike hK, hD9⟩, hS.F ht⟩) hS.2.2 dX1_width_5

set_option maxHeartbeats 8000000 in
set_option maxRecDepth 100000 in
theorem mX1_variable (l : Launch) (G : va_G) (tt : Nat → ClassId) (sz : Nat) (p0 : Int32) (p1 : Int32) (RR : Int32) (hF : fX1_variable p0 p1 = some RR) : Met l yX1_variable wsX1_variable ({ frames := 0, cells := 0, slots := 0, locals := 0 } : Room) (zPre G (zTy tt) [.int p0, .int p1] sz []) (va_Qi (fun (r : Int32) (_ : Unit) => r = RR) (zAt G (zTy tt) (va_A [] sz) (fun _ : Unit => [])) (va_A [] sz)) 0 0 (va_A [] sz) := by
  refine Met.ofW (cc := cX1_variable) (maxL := 3) (ret := (some .int)) (by decide +kernel) rfl ?_
  intro p e s m args below meth c s₁ B hml hv
  obtain ⟨rfl, hsz, hP, hK, hD0, hN⟩ := hv
  have hx := B.exec
  have hb := B.bytes
  have hr := B.returns
  have hts := atoms_spec (ws := wsX1_variable) B.pre
  have hown : s.vm.findClass RX1 = some m.cls := findClass_of_methodNamed B.named
  have hlocks := B.notSynchronized
  subst hsz
  have hD := hD0.self (sz := s.heap.size)
  generalize hAe : va_A [] s.heap.size = A at hD ⊢
  have hA : ∀ q : Nat, s.heap.size ≤ q → A q := fun q h => by rw [← hAe]; exact Or.inr h
  have hP : va_P G vwCl [] s.heap := hP
  have hl := lv_entry ([.int p0, .int p1]) (n := 3) (Nat.le_of_ble_eq_true rfl)
  rw [lg_entry_eq]
  generalize (lg_sl ([.int p0, .int p1]) ++ List.replicate (3 - (lg_sl ([.int p0, .int p1])).length) Slot.unset).toArray = ls at hl ⊢
  have hl : lv_has ls 3 [(0, .int p0), (1, .int p1)] := hl
  have hb18 : ∀ (t0 : Int32) (H : Heap) (locs : List Loc) (ls : Array Slot), fX1_variable_18 p0 p1 t0 = some RR → va_P G vwCl [] H → va_D A [] → va_S A s.heap H locs → lv_has ls 3 [(0, .int p0), (1, .int p1)] → W p l e (headSpec wsX1_variable ({ frames := 0, cells := 0, slots := 0, locals := 0 } : Room)).room s m ([.int p0, .int p1] : List Value).toArray below meth c H locs 0 0 (MQ below (va_Qi (fun (r : Int32) (_ : Unit) => r = RR) (zAt G (zTy tt) A (fun _ : Unit => [])) A) ([.int p0, .int p1] : List Value).toArray s 0 0 A) (F0 m 18 ls [.int t0]) := by
    intro t0 H locs ls hF hP hD hS hl
    unfold fX1_variable_18 at hF
    refine lv_istore_n (lv' := [(2, .int t0), (0, .int p0), (1, .int p1)]) hx hb dX1_variable_18 rfl hl (by decide) rfl (fun ls hl => ?_)
    refine lv_iload_n hx hb dX1_variable_19 rfl (lv_at hl 0 rfl) ?_
    refine lv_if_eq (tgt := 35) hx hb dX1_variable_20 (by decide) (fun c_20 => ?_) (fun c_20 => ?_)
    · have hF := z_t c_20 hF
      refine lv_iconst (v := (-1 : Int32)) hx hb dX1_variable_35 (by decide) ?_
      have hPD : zPD G A [] H := ⟨hP.sub [] rfl, hD.sub [] (by decide +kernel) rfl⟩
      have hP9 := hPD.1
      have hD9 := hPD.2
      have hR := Option.some.inj hF
      exact W.iret (v := (-1 : Int32)) hx hb hr (fun t ht hW => ⟨⟨(-1 : Int32), (), rfl, (by subst hR; rfl), by rw [ht]; exact hP9, va_K.moved hW.alike hK, hD9⟩, hS.F ht⟩) hS.2.2 dX1_variable_36
    · have hF := z_f c_20 hF
      refine lv_iload_n hx hb dX1_variable_23 rfl (lv_at hl 1 rfl) ?_
      refine lv_iconst (v := (5 : Int32)) hx hb dX1_variable_24 (by decide) ?_
      refine lv_iconst (v := (2 : Int32)) hx hb dX1_variable_25 (by decide) ?_
      refine lv_iload_n hx hb dX1_variable_26 rfl (lv_at hl 2 rfl) ?_
      refine lv_imul hx hb dX1_variable_27 ?_
      refine lv_iadd hx hb dX1_variable_28 ?_
      refine lv_ishr hx hb dX1_variable_29 ?_
      refine lv_iconst (v := (3 : Int32)) hx hb dX1_variable_30 (by decide) ?_
      refine lv_iand hx hb dX1_variable_31 ?_
      refine lv_goto (tgt := 36) hx hb dX1_variable_32 (by decide) ?_
      have hPD : zPD G A [] H := ⟨hP.sub [] rfl, hD.sub [] (by decide +kernel) rfl⟩
      have hP9 := hPD.1
      have hD9 := hPD.2
      have hR := Option.some.inj hF
      exact W.iret (v := ((p0 >>> (((5 : Int32) + ((2 : Int32) * p1)) &&& 31)) &&& (3 : Int32))) hx hb hr (fun t ht hW => ⟨⟨((p0 >>> (((5 : Int32) + ((2 : Int32) * p1)) &&& 31)) &&& (3 : Int32)), (), rfl, (by subst hR; rfl), by rw [ht]; exact hP9, va_K.moved hW.alike hK, hD9⟩, hS.F ht⟩) hS.2.2 dX1_variable_36
  have hb17 : ∀  (H : Heap) (locs : List Loc) (ls : Array Slot), fX1_variable_17 p0 p1  = some RR → va_P G vwCl [] H → va_D A [] → va_S A s.heap H locs → lv_has ls 3 [(0, .int p0), (1, .int p1)] → W p l e (headSpec wsX1_variable ({ frames := 0, cells := 0, slots := 0, locals := 0 } : Room)).room s m ([.int p0, .int p1] : List Value).toArray below meth c H locs 0 0 (MQ below (va_Qi (fun (r : Int32) (_ : Unit) => r = RR) (zAt G (zTy tt) A (fun _ : Unit => [])) A) ([.int p0, .int p1] : List Value).toArray s 0 0 A) (F0 m 17 ls []) := by
    intro  H locs ls hF hP hD hS hl
    unfold fX1_variable_17 at hF
    refine lv_iconst (v := (0 : Int32)) hx hb dX1_variable_17 (by decide) ?_
    exact hb18 _ _ _ _ hF hP hD hS (lv_sub hl [0, 1] rfl)
  obtain ⟨H, hHe⟩ : ∃ H : Heap, s.heap = H := ⟨_, rfl⟩
  have hS : va_S A s.heap H [] := by rw [← hHe]; exact va_S.rf
  rw [hHe] at hP ⊢
  unfold fX1_variable at hF
  refine lv_iload_n hx hb dX1_variable_0 rfl (lv_at hl 1 rfl) ?_
  refine lv_if_lt (tgt := 17) hx hb dX1_variable_1 (by decide) (fun c_1 => ?_) (fun c_1 => ?_)
  · have hF := z_t c_1 hF
    exact hb17  _ _ _ hF hP hD hS (lv_sub hl [0, 1] rfl)
  · have hF := z_f c_1 hF
    refine lv_iload_n hx hb dX1_variable_4 rfl (lv_at hl 1 rfl) ?_
    refine lv_iload_n hx hb dX1_variable_5 rfl (lv_at hl 0 rfl) ?_
    refine lv_iconst (v := (3 : Int32)) hx hb dX1_variable_6 (by decide) ?_
    refine lv_ishr hx hb dX1_variable_7 ?_
    refine lv_iconst (v := (3 : Int32)) hx hb dX1_variable_8 (by decide) ?_
    refine lv_iand hx hb dX1_variable_9 ?_
    refine lv_icmp_ge (tgt := 17) hx hb dX1_variable_10 (by decide) (fun c_10 => ?_) (fun c_10 => ?_)
    · have hF := z_t c_10 hF
      exact hb17  _ _ _ hF hP hD hS (lv_sub hl [0, 1] rfl)
    · have hF := z_f c_10 hF
      refine lv_iconst (v := (1 : Int32)) hx hb dX1_variable_13 (by decide) ?_
      refine lv_goto (tgt := 18) hx hb dX1_variable_14 (by decide) ?_
      exact hb18 _ _ _ _ hF hP hD hS (lv_sub hl [0, 1] rfl)

set_option maxHeartbeats 8000000 in
set_option maxRecDepth 100000 in
theorem mX1_variables (l : Launch) (G : va_G) (tt : Nat → ClassId) (sz : Nat) (p0 : Int32) (RR : Int32) (hF : fX1_variables p0 = some RR) : Met l yX1_variables wsX1_variables ({ frames := 0, cells := 0, slots := 0, locals := 0 } : Room) (zPre G (zTy tt) [.int p0] sz []) (va_Qi (fun (r : Int32) (_ : Unit) => r = RR) (zAt G (zTy tt) (va_A [] sz) (fun _ : Unit => [])) (va_A [] sz)) 0 0 (va_A [] sz) := by
  refine Met.ofW (cc := cX1_variables) (maxL := 1) (ret := (some .int)) (by decide +kernel) rfl ?_
  intro p e s m args below meth c s₁ B hml hv
  obtain ⟨rfl, hsz, hP, hK, hD0, hN⟩ := hv
  have hx := B.exec
  have hb := B.bytes
  have hr := B.returns
  have hts := atoms_spec (ws := wsX1_variables) B.pre
  have hown : s.vm.findClass RX1 = some m.cls := findClass_of_methodNamed B.named
  have hlocks := B.notSynchronized
  subst hsz
  have hD := hD0.self (sz := s.heap.size)
  generalize hAe : va_A [] s.heap.size = A at hD ⊢
  have hA : ∀ q : Nat, s.heap.size ≤ q → A q := fun q h => by rw [← hAe]; exact Or.inr h
  have hP : va_P G vwCl [] s.heap := hP
  have hl := lv_entry ([.int p0]) (n := 1) (Nat.le_of_ble_eq_true rfl)
  rw [lg_entry_eq]
  generalize (lg_sl ([.int p0]) ++ List.replicate (1 - (lg_sl ([.int p0])).length) Slot.unset).toArray = ls at hl ⊢
  have hl : lv_has ls 1 [(0, .int p0)] := hl
  obtain ⟨H, hHe⟩ : ∃ H : Heap, s.heap = H := ⟨_, rfl⟩
  have hS : va_S A s.heap H [] := by rw [← hHe]; exact va_S.rf
  rw [hHe] at hP ⊢
  unfold fX1_variables at hF
  refine lv_iload_n hx hb dX1_variables_0 rfl (lv_at hl 0 rfl) ?_
  refine lv_bipush (v := (11 : Int32)) hx hb dX1_variables_1 (by decide) ?_
  refine lv_ishr hx hb dX1_variables_3 ?_
  refine lv_bipush (v := (15 : Int32)) hx hb dX1_variables_4 (by decide) ?_
  refine lv_iand hx hb dX1_variables_6 ?_
  have hPD : zPD G A [] H := ⟨hP.sub [] rfl, hD.sub [] (by decide +kernel) rfl⟩
  have hP9 := hPD.1
  have hD9 := hPD.2
  have hR := Option.some.inj hF
  exact W.iret (v := ((p0 >>> ((11 : Int32) &&& 31)) &&& (15 : Int32))) hx hb hr (fun t ht hW => ⟨⟨((p0 >>> ((11 : Int32) &&& 31)) &&& (15 : Int32)), (), rfl, (by subst hR; rfl), by rw [ht]; exact hP9, va_K.moved hW.alike hK, hD9⟩, hS.F ht⟩) hS.2.2 dX1_variables_7

set_option maxHeartbeats 8000000 in
set_option maxRecDepth 100000 in
theorem mX1_stands (l : Launch) (G : va_G) (tt : Nat → ClassId) (sz : Nat) (p0 : Int32) (p1 : Int32) (RR : Bool) (hF : fX1_stands p0 p1 = some RR) : Met l yX1_stands wsX1_stands ({ frames := 0, cells := 0, slots := 0, locals := 0 } : Room) (zPre G (zTy tt) [.int p0, .int p1] sz []) (va_Qi (fun (r : Int32) (_ : Unit) => r = bI RR) (zAt G (zTy tt) (va_A [] sz) (fun _ : Unit => [])) (va_A [] sz)) 0 0 (va_A [] sz) := by
  refine Met.ofW (cc := cX1_stands) (maxL := 2) (ret := (some .boolean)) (by decide +kernel) rfl ?_
  intro p e s m args below meth c s₁ B hml hv
  obtain ⟨rfl, hsz, hP, hK, hD0, hN⟩ := hv
  have hx := B.exec
  have hb := B.bytes
  have hr := B.returns
  have hts := atoms_spec (ws := wsX1_stands) B.pre
  have hown : s.vm.findClass RX1 = some m.cls := findClass_of_methodNamed B.named
  have hlocks := B.notSynchronized
  subst hsz
  have hD := hD0.self (sz := s.heap.size)
  generalize hAe : va_A [] s.heap.size = A at hD ⊢
  have hA : ∀ q : Nat, s.heap.size ≤ q → A q := fun q h => by rw [← hAe]; exact Or.inr h
  have hP : va_P G vwCl [] s.heap := hP
  have hl := lv_entry ([.int p0, .int p1]) (n := 2) (Nat.le_of_ble_eq_true rfl)
  rw [lg_entry_eq]
  generalize (lg_sl ([.int p0, .int p1]) ++ List.replicate (2 - (lg_sl ([.int p0, .int p1])).length) Slot.unset).toArray = ls at hl ⊢
  have hl : lv_has ls 2 [(0, .int p0), (1, .int p1)] := hl
  obtain ⟨H, hHe⟩ : ∃ H : Heap, s.heap = H := ⟨_, rfl⟩
  have hS : va_S A s.heap H [] := by rw [← hHe]; exact va_S.rf
  rw [hHe] at hP ⊢
  unfold fX1_stands at hF
  refine lv_iload_n hx hb dX1_stands_0 rfl (lv_at hl 0 rfl) ?_
  refine lv_bipush (v := (11 : Int32)) hx hb dX1_stands_1 (by decide) ?_
  refine lv_iload_n hx hb dX1_stands_3 rfl (lv_at hl 1 rfl) ?_
  refine lv_iadd hx hb dX1_stands_4 ?_
  refine lv_ishr hx hb dX1_stands_5 ?_
  refine lv_iconst (v := (1 : Int32)) hx hb dX1_stands_6 (by decide) ?_
  refine lv_iand hx hb dX1_stands_7 ?_
  refine lv_if_eq (tgt := 15) hx hb dX1_stands_8 (by decide) (fun c_8 => ?_) (fun c_8 => ?_)
  · have hF := z_t c_8 hF
    refine lv_iconst (v := (0 : Int32)) hx hb dX1_stands_15 (by decide) ?_
    have hPD : zPD G A [] H := ⟨hP.sub [] rfl, hD.sub [] (by decide +kernel) rfl⟩
    have hP9 := hPD.1
    have hD9 := hPD.2
    have hR := Option.some.inj hF
    exact W.zret (v := (0 : Int32)) hx hb hr rfl (fun t ht hW => ⟨⟨(0 : Int32), (), rfl, (by subst hR; rfl), by rw [ht]; exact hP9, va_K.moved hW.alike hK, hD9⟩, hS.F ht⟩) hS.2.2 dX1_stands_16
  · have hF := z_f c_8 hF
    refine lv_iconst (v := (1 : Int32)) hx hb dX1_stands_11 (by decide) ?_
    refine lv_goto (tgt := 16) hx hb dX1_stands_12 (by decide) ?_
    have hPD : zPD G A [] H := ⟨hP.sub [] rfl, hD.sub [] (by decide +kernel) rfl⟩
    have hP9 := hPD.1
    have hD9 := hPD.2
    have hR := Option.some.inj hF
    exact W.zret (v := (1 : Int32)) hx hb hr rfl (fun t ht hW => ⟨⟨(1 : Int32), (), rfl, (by subst hR; rfl), by rw [ht]; exact hP9, va_K.moved hW.alike hK, hD9⟩, hS.F ht⟩) hS.2.2 dX1_stands_16

set_option maxHeartbeats 8000000 in
set_option maxRecDepth 100000 in
theorem mX1_withValue (l : Launch) (G : va_G) (tt : Nat → ClassId) (sz : Nat) (p0 : Int32) (p1 : Int32) (p2 : Int32) (RR : Int32) (hF : fX1_withValue p0 p1 p2 = some RR) : Met l yX1_withValue wsX1_withValue ({ frames := 0, cells := 0, slots := 0, locals := 0 } : Room) (zPre G (zTy tt) [.int p0, .int p1, .int p2] sz []) (va_Qi (fun (r : Int32) (_ : Unit) => r = RR) (zAt G (zTy tt) (va_A [] sz) (fun _ : Unit => [])) (va_A [] sz)) 0 0 (va_A [] sz) := by
  refine Met.ofW (cc := cX1_withValue) (maxL := 3) (ret := (some .int)) (by decide +kernel) rfl ?_
  intro p e s m args below meth c s₁ B hml hv
  obtain ⟨rfl, hsz, hP, hK, hD0, hN⟩ := hv
  have hx := B.exec
  have hb := B.bytes
  have hr := B.returns
  have hts := atoms_spec (ws := wsX1_withValue) B.pre
  have hown : s.vm.findClass RX1 = some m.cls := findClass_of_methodNamed B.named
  have hlocks := B.notSynchronized
  subst hsz
  have hD := hD0.self (sz := s.heap.size)
  generalize hAe : va_A [] s.heap.size = A at hD ⊢
  have hA : ∀ q : Nat, s.heap.size ≤ q → A q := fun q h => by rw [← hAe]; exact Or.inr h
  have hP : va_P G vwCl [] s.heap := hP
  have hl := lv_entry ([.int p0, .int p1, .int p2]) (n := 3) (Nat.le_of_ble_eq_true rfl)
  rw [lg_entry_eq]
  generalize (lg_sl ([.int p0, .int p1, .int p2]) ++ List.replicate (3 - (lg_sl ([.int p0, .int p1, .int p2])).length) Slot.unset).toArray = ls at hl ⊢
  have hl : lv_has ls 3 [(0, .int p0), (1, .int p1), (2, .int p2)] := hl
  obtain ⟨H, hHe⟩ : ∃ H : Heap, s.heap = H := ⟨_, rfl⟩
  have hS : va_S A s.heap H [] := by rw [← hHe]; exact va_S.rf
  rw [hHe] at hP ⊢
  unfold fX1_withValue at hF
  refine lv_iload_n hx hb dX1_withValue_0 rfl (lv_at hl 0 rfl) ?_
  refine lv_bipush (v := (15 : Int32)) hx hb dX1_withValue_1 (by decide) ?_
  refine lv_iconst (v := (4 : Int32)) hx hb dX1_withValue_3 (by decide) ?_
  refine lv_iload_n hx hb dX1_withValue_4 rfl (lv_at hl 1 rfl) ?_
  refine lv_imul hx hb dX1_withValue_5 ?_
  refine lv_ishl hx hb dX1_withValue_6 ?_
  refine lv_iconst (v := (-1 : Int32)) hx hb dX1_withValue_7 (by decide) ?_
  refine lv_ixor hx hb dX1_withValue_8 ?_
  refine lv_iand hx hb dX1_withValue_9 ?_
  refine lv_bipush (v := (8 : Int32)) hx hb dX1_withValue_10 (by decide) ?_
  refine lv_iload_n hx hb dX1_withValue_12 rfl (lv_at hl 2 rfl) ?_
  refine lv_ior hx hb dX1_withValue_13 ?_
  refine lv_iconst (v := (4 : Int32)) hx hb dX1_withValue_14 (by decide) ?_
  refine lv_iload_n hx hb dX1_withValue_15 rfl (lv_at hl 1 rfl) ?_
  refine lv_imul hx hb dX1_withValue_16 ?_
  refine lv_ishl hx hb dX1_withValue_17 ?_
  refine lv_ior hx hb dX1_withValue_18 ?_
  have hPD : zPD G A [] H := ⟨hP.sub [] rfl, hD.sub [] (by decide +kernel) rfl⟩
  have hP9 := hPD.1
  have hD9 := hPD.2
  have hR := Option.some.inj hF
  exact W.iret (v := ((p0 &&& (((15 : Int32) <<< (((4 : Int32) * p1) &&& 31)) ^^^ (-1 : Int32))) ||| (((8 : Int32) ||| p2) <<< (((4 : Int32) * p1) &&& 31)))) hx hb hr (fun t ht hW => ⟨⟨((p0 &&& (((15 : Int32) <<< (((4 : Int32) * p1) &&& 31)) ^^^ (-1 : Int32))) ||| (((8 : Int32) ||| p2) <<< (((4 : Int32) * p1) &&& 31))), (), rfl, (by subst hR; rfl), by rw [ht]; exact hP9, va_K.moved hW.alike hK, hD9⟩, hS.F ht⟩) hS.2.2 dX1_withValue_19

set_option maxHeartbeats 8000000 in
set_option maxRecDepth 100000 in
theorem mX1_withoutValue (l : Launch) (G : va_G) (tt : Nat → ClassId) (sz : Nat) (p0 : Int32) (p1 : Int32) (RR : Int32) (hF : fX1_withoutValue p0 p1 = some RR) : Met l yX1_withoutValue wsX1_withoutValue ({ frames := 0, cells := 0, slots := 0, locals := 0 } : Room) (zPre G (zTy tt) [.int p0, .int p1] sz []) (va_Qi (fun (r : Int32) (_ : Unit) => r = RR) (zAt G (zTy tt) (va_A [] sz) (fun _ : Unit => [])) (va_A [] sz)) 0 0 (va_A [] sz) := by
  refine Met.ofW (cc := cX1_withoutValue) (maxL := 2) (ret := (some .int)) (by decide +kernel) rfl ?_
  intro p e s m args below meth c s₁ B hml hv
  obtain ⟨rfl, hsz, hP, hK, hD0, hN⟩ := hv
  have hx := B.exec
  have hb := B.bytes
  have hr := B.returns
  have hts := atoms_spec (ws := wsX1_withoutValue) B.pre
  have hown : s.vm.findClass RX1 = some m.cls := findClass_of_methodNamed B.named
  have hlocks := B.notSynchronized
  subst hsz
  have hD := hD0.self (sz := s.heap.size)
  generalize hAe : va_A [] s.heap.size = A at hD ⊢
  have hA : ∀ q : Nat, s.heap.size ≤ q → A q := fun q h => by rw [← hAe]; exact Or.inr h
  have hP : va_P G vwCl [] s.heap := hP
  have hl := lv_entry ([.int p0, .int p1]) (n := 2) (Nat.le_of_ble_eq_true rfl)
  rw [lg_entry_eq]
  generalize (lg_sl ([.int p0, .int p1]) ++ List.replicate (2 - (lg_sl ([.int p0, .int p1])).length) Slot.unset).toArray = ls at hl ⊢
  have hl : lv_has ls 2 [(0, .int p0), (1, .int p1)] := hl
  obtain ⟨H, hHe⟩ : ∃ H : Heap, s.heap = H := ⟨_, rfl⟩
  have hS : va_S A s.heap H [] := by rw [← hHe]; exact va_S.rf
  rw [hHe] at hP ⊢
  unfold fX1_withoutValue at hF
  refine lv_iload_n hx hb dX1_withoutValue_0 rfl (lv_at hl 0 rfl) ?_
  refine lv_bipush (v := (15 : Int32)) hx hb dX1_withoutValue_1 (by decide) ?_
  refine lv_iconst (v := (4 : Int32)) hx hb dX1_withoutValue_3 (by decide) ?_
  refine lv_iload_n hx hb dX1_withoutValue_4 rfl (lv_at hl 1 rfl) ?_
  refine lv_imul hx hb dX1_withoutValue_5 ?_
  refine lv_ishl hx hb dX1_withoutValue_6 ?_
  refine lv_iconst (v := (-1 : Int32)) hx hb dX1_withoutValue_7 (by decide) ?_
  refine lv_ixor hx hb dX1_withoutValue_8 ?_
  refine lv_iand hx hb dX1_withoutValue_9 ?_
  have hPD : zPD G A [] H := ⟨hP.sub [] rfl, hD.sub [] (by decide +kernel) rfl⟩
  have hP9 := hPD.1
  have hD9 := hPD.2
  have hR := Option.some.inj hF
  exact W.iret (v := (p0 &&& (((15 : Int32) <<< (((4 : Int32) * p1) &&& 31)) ^^^ (-1 : Int32)))) hx hb hr (fun t ht hW => ⟨⟨(p0 &&& (((15 : Int32) <<< (((4 : Int32) * p1) &&& 31)) ^^^ (-1 : Int32))), (), rfl, (by subst hR; rfl), by rw [ht]; exact hP9, va_K.moved hW.alike hK, hD9⟩, hS.F ht⟩) hS.2.2 dX1_withoutValue_10

set_option maxHeartbeats 8000000 in
set_option maxRecDepth 100000 in
theorem mX1_hasValue (l : Launch) (G : va_G) (tt : Nat → ClassId) (sz : Nat) (p0 : Int32) (p1 : Int32) (RR : Bool) (hF : fX1_hasValue p0 p1 = some RR) : Met l yX1_hasValue wsX1_hasValue ({ frames := 0, cells := 0, slots := 0, locals := 0 } : Room) (zPre G (zTy tt) [.int p0, .int p1] sz []) (va_Qi (fun (r : Int32) (_ : Unit) => r = bI RR) (zAt G (zTy tt) (va_A [] sz) (fun _ : Unit => [])) (va_A [] sz)) 0 0 (va_A [] sz) := by
  refine Met.ofW (cc := cX1_hasValue) (maxL := 2) (ret := (some .boolean)) (by decide +kernel) rfl ?_
  intro p e s m args below meth c s₁ B hml hv
  obtain ⟨rfl, hsz, hP, hK, hD0, hN⟩ := hv
  have hx := B.exec
  have hb := B.bytes
  have hr := B.returns
  have hts := atoms_spec (ws := wsX1_hasValue) B.pre
  have hown : s.vm.findClass RX1 = some m.cls := findClass_of_methodNamed B.named
  have hlocks := B.notSynchronized
  subst hsz
  have hD := hD0.self (sz := s.heap.size)
  generalize hAe : va_A [] s.heap.size = A at hD ⊢
  have hA : ∀ q : Nat, s.heap.size ≤ q → A q := fun q h => by rw [← hAe]; exact Or.inr h
  have hP : va_P G vwCl [] s.heap := hP
  have hl := lv_entry ([.int p0, .int p1]) (n := 2) (Nat.le_of_ble_eq_true rfl)
  rw [lg_entry_eq]
  generalize (lg_sl ([.int p0, .int p1]) ++ List.replicate (2 - (lg_sl ([.int p0, .int p1])).length) Slot.unset).toArray = ls at hl ⊢
  have hl : lv_has ls 2 [(0, .int p0), (1, .int p1)] := hl
  obtain ⟨H, hHe⟩ : ∃ H : Heap, s.heap = H := ⟨_, rfl⟩
  have hS : va_S A s.heap H [] := by rw [← hHe]; exact va_S.rf
  rw [hHe] at hP ⊢
  unfold fX1_hasValue at hF
  refine lv_iload_n hx hb dX1_hasValue_0 rfl (lv_at hl 1 rfl) ?_
  refine lv_iconst (v := (4 : Int32)) hx hb dX1_hasValue_1 (by decide) ?_
  refine lv_iload_n hx hb dX1_hasValue_2 rfl (lv_at hl 0 rfl) ?_
  refine lv_imul hx hb dX1_hasValue_3 ?_
  refine lv_ishr hx hb dX1_hasValue_4 ?_
  refine lv_bipush (v := (8 : Int32)) hx hb dX1_hasValue_5 (by decide) ?_
  refine lv_iand hx hb dX1_hasValue_7 ?_
  refine lv_if_eq (tgt := 15) hx hb dX1_hasValue_8 (by decide) (fun c_8 => ?_) (fun c_8 => ?_)
  · have hF := z_t c_8 hF
    refine lv_iconst (v := (0 : Int32)) hx hb dX1_hasValue_15 (by decide) ?_
    have hPD : zPD G A [] H := ⟨hP.sub [] rfl, hD.sub [] (by decide +kernel) rfl⟩
    have hP9 := hPD.1
    have hD9 := hPD.2
    have hR := Option.some.inj hF
    exact W.zret (v := (0 : Int32)) hx hb hr rfl (fun t ht hW => ⟨⟨(0 : Int32), (), rfl, (by subst hR; rfl), by rw [ht]; exact hP9, va_K.moved hW.alike hK, hD9⟩, hS.F ht⟩) hS.2.2 dX1_hasValue_16
  · have hF := z_f c_8 hF
    refine lv_iconst (v := (1 : Int32)) hx hb dX1_hasValue_11 (by decide) ?_
    refine lv_goto (tgt := 16) hx hb dX1_hasValue_12 (by decide) ?_
    have hPD : zPD G A [] H := ⟨hP.sub [] rfl, hD.sub [] (by decide +kernel) rfl⟩
    have hP9 := hPD.1
    have hD9 := hPD.2
    have hR := Option.some.inj hF
    exact W.zret (v := (1 : Int32)) hx hb hr rfl (fun t ht hW => ⟨⟨(1 : Int32), (), rfl, (by subst hR; rfl), by rw [ht]; exact hP9, va_K.moved hW.alike hK, hD9⟩, hS.F ht⟩) hS.2.2 dX1_hasValue_16

set_option maxHeartbeats 8000000 in
set_option maxRecDepth 100000 in
theorem mX1_valueOf (l : Launch) (G : va_G) (tt : Nat → ClassId) (sz : Nat) (p0 : Int32) (p1 : Int32) (RR : Int32) (hF : fX1_valueOf p0 p1 = some RR) : Met l yX1_valueOf wsX1_valueOf ({ frames := 0, cells := 0, slots := 0, locals := 0 } : Room) (zPre G (zTy tt) [.int p0, .int p1] sz []) (va_Qi (fun (r : Int32) (_ : Unit) => r = RR) (zAt G (zTy tt) (va_A [] sz) (fun _ : Unit => [])) (va_A [] sz)) 0 0 (va_A [] sz) := by
  refine Met.ofW (cc := cX1_valueOf) (maxL := 2) (ret := (some .int)) (by decide +kernel) rfl ?_
  intro p e s m args below meth c s₁ B hml hv
  obtain ⟨rfl, hsz, hP, hK, hD0, hN⟩ := hv
  have hx := B.exec
  have hb := B.bytes
  have hr := B.returns
  have hts := atoms_spec (ws := wsX1_valueOf) B.pre
  have hown : s.vm.findClass RX1 = some m.cls := findClass_of_methodNamed B.named
  have hlocks := B.notSynchronized
  subst hsz
  have hD := hD0.self (sz := s.heap.size)
  generalize hAe : va_A [] s.heap.size = A at hD ⊢
  have hA : ∀ q : Nat, s.heap.size ≤ q → A q := fun q h => by rw [← hAe]; exact Or.inr h
  have hP : va_P G vwCl [] s.heap := hP
  have hl := lv_entry ([.int p0, .int p1]) (n := 2) (Nat.le_of_ble_eq_true rfl)
  rw [lg_entry_eq]
  generalize (lg_sl ([.int p0, .int p1]) ++ List.replicate (2 - (lg_sl ([.int p0, .int p1])).length) Slot.unset).toArray = ls at hl ⊢
  have hl : lv_has ls 2 [(0, .int p0), (1, .int p1)] := hl
  obtain ⟨H, hHe⟩ : ∃ H : Heap, s.heap = H := ⟨_, rfl⟩
  have hS : va_S A s.heap H [] := by rw [← hHe]; exact va_S.rf
  rw [hHe] at hP ⊢
  unfold fX1_valueOf at hF
  refine lv_iload_n hx hb dX1_valueOf_0 rfl (lv_at hl 1 rfl) ?_
  refine lv_iconst (v := (4 : Int32)) hx hb dX1_valueOf_1 (by decide) ?_
  refine lv_iload_n hx hb dX1_valueOf_2 rfl (lv_at hl 0 rfl) ?_
  refine lv_imul hx hb dX1_valueOf_3 ?_
  refine lv_ishr hx hb dX1_valueOf_4 ?_
  refine lv_bipush (v := (7 : Int32)) hx hb dX1_valueOf_5 (by decide) ?_
  refine lv_iand hx hb dX1_valueOf_7 ?_
  have hPD : zPD G A [] H := ⟨hP.sub [] rfl, hD.sub [] (by decide +kernel) rfl⟩
  have hP9 := hPD.1
  have hD9 := hPD.2
  have hR := Option.some.inj hF
  exact W.iret (v := ((p1 >>> (((4 : Int32) * p0) &&& 31)) &&& (7 : Int32))) hx hb hr (fun t ht hW => ⟨⟨((p1 >>> (((4 : Int32) * p0) &&& 31)) &&& (7 : Int32)), (), rfl, (by subst hR; rfl), by rw [ht]; exact hP9, va_K.moved hW.alike hK, hD9⟩, hS.F ht⟩) hS.2.2 dX1_valueOf_8

set_option maxHeartbeats 8000000 in
set_option maxRecDepth 100000 in
theorem mX1_row (l : Launch) (G : va_G) (tt : Nat → ClassId) (sz : Nat) (K : Nat) (p0 : Int32) (p1 : Int32) (RR : Int32) (hF : fX1_row K p0 p1 = some RR) : Met l yX1_row wsX1_row ({ frames := 1, cells := 0, slots := 0, locals := 22 } : Room) (zPre G (zTy tt) [.int p0, .int p1] sz []) (va_Qi (fun (r : Int32) (_ : Unit) => r = RR) (zAt G (zTy tt) (va_A [] sz) (fun _ : Unit => [])) (va_A [] sz)) 0 0 (va_A [] sz) := by
  refine Met.ofW (cc := cX1_row) (maxL := 5) (ret := (some .int)) (by decide +kernel) rfl ?_
  intro p e s m args below meth c s₁ B hml hv
  obtain ⟨rfl, hsz, hP, hK, hD0, hN⟩ := hv
  have hx := B.exec
  have hb := B.bytes
  have hr := B.returns
  have hts := atoms_spec (ws := wsX1_row) B.pre
  have hown : s.vm.findClass RX1 = some m.cls := findClass_of_methodNamed B.named
  have hlocks := B.notSynchronized
  subst hsz
  have hD := hD0.self (sz := s.heap.size)
  generalize hAe : va_A [] s.heap.size = A at hD ⊢
  have hA : ∀ q : Nat, s.heap.size ≤ q → A q := fun q h => by rw [← hAe]; exact Or.inr h
  have hP : va_P G vwCl [] s.heap := hP
  have hl := lv_entry ([.int p0, .int p1]) (n := 5) (Nat.le_of_ble_eq_true rfl)
  rw [lg_entry_eq]
  generalize (lg_sl ([.int p0, .int p1]) ++ List.replicate (5 - (lg_sl ([.int p0, .int p1])).length) Slot.unset).toArray = ls at hl ⊢
  have hl : lv_has ls 5 [(0, .int p0), (1, .int p1)] := hl
  have hb4 : ∀ (k4 : Nat) (x2 : Int32) (x3 : Int32) (H : Heap) (locs : List Loc) (ls : Array Slot), fX1_row_4 K p0 p1 k4 x2 x3 = some RR → va_P G vwCl [] H → va_D A [] → va_S A s.heap H locs → lv_has ls 5 [(0, .int p0), (1, .int p1), (2, .int x2), (3, .int x3)] → W p l e (headSpec wsX1_row ({ frames := 1, cells := 0, slots := 0, locals := 22 } : Room)).room s m ([.int p0, .int p1] : List Value).toArray below meth c H locs 0 0 (MQ below (va_Qi (fun (r : Int32) (_ : Unit) => r = RR) (zAt G (zTy tt) A (fun _ : Unit => [])) A) ([.int p0, .int p1] : List Value).toArray s 0 0 A) (F0 m 4 ls []) := by
    intro k4
    induction k4 with
    | zero => intro x2 x3 H locs ls hF; rw [fX1_row_4] at hF; cases hF
    | succ k4 ih4 =>
      have hb35 : ∀ (x3 : Int32) (t0 : Int32) (t1 : Int32) (H : Heap) (locs : List Loc) (ls : Array Slot), fX1_row_35 K p0 p1 (fX1_row_4 K p0 p1 k4) x3 t0 t1 = some RR → va_P G vwCl [] H → va_D A [] → va_S A s.heap H locs → lv_has ls 5 [(0, .int p0), (1, .int p1), (3, .int x3)] → W p l e (headSpec wsX1_row ({ frames := 1, cells := 0, slots := 0, locals := 22 } : Room)).room s m ([.int p0, .int p1] : List Value).toArray below meth c H locs 0 0 (MQ below (va_Qi (fun (r : Int32) (_ : Unit) => r = RR) (zAt G (zTy tt) A (fun _ : Unit => [])) A) ([.int p0, .int p1] : List Value).toArray s 0 0 A) (F0 m 35 ls [.int t1, .int t0]) := by
        intro x3 t0 t1 H locs ls hF hP hD hS hl
        unfold fX1_row_35 at hF
        refine lv_ior hx hb dX1_row_35 ?_
        refine lv_istore_n (lv' := [(2, .int (t0 ||| t1)), (0, .int p0), (1, .int p1), (3, .int x3)]) hx hb dX1_row_36 rfl hl (by decide) rfl (fun ls hl => ?_)
        refine lv_iinc (v := (x3 + (1 : Int32))) (lv' := [(3, .int (x3 + (1 : Int32))), (2, .int (t0 ||| t1)), (0, .int p0), (1, .int p1)]) hx hb dX1_row_37 hl (k := 3) rfl rfl (by decide) rfl (fun ls hl => ?_)
        refine lv_goto (tgt := 4) hx hb dX1_row_40 (by decide) ?_
        exact ih4 _ _ _ _ _ hF hP hD hS (lv_sub hl [2, 3, 1, 0] rfl)
      intro x2 x3 H locs ls hF hP hD hS hl
      rw [fX1_row_4] at hF
      refine lv_iload_n hx hb dX1_row_4 rfl (lv_at hl 3 rfl) ?_
      refine lv_iconst (v := (3 : Int32)) hx hb dX1_row_5 (by decide) ?_
      refine lv_icmp_ge (tgt := 43) hx hb dX1_row_6 (by decide) (fun c_6 => ?_) (fun c_6 => ?_)
      · have hF := z_t c_6 hF
        refine lv_iload_n hx hb dX1_row_43 rfl (lv_at hl 2 rfl) ?_
        have hPD : zPD G A [] H := ⟨hP.sub [] rfl, hD.sub [] (by decide +kernel) rfl⟩
        have hP9 := hPD.1
        have hD9 := hPD.2
        have hR := Option.some.inj hF
        exact W.iret (v := x2) hx hb hr (fun t ht hW => ⟨⟨x2, (), rfl, (by subst hR; rfl), by rw [ht]; exact hP9, va_K.moved hW.alike hK, hD9⟩, hS.F ht⟩) hS.2.2 dX1_row_44
      · have hF := z_f c_6 hF
        refine lv_iload_n hx hb dX1_row_9 rfl (lv_at hl 0 rfl) ?_
        refine lv_iload_n hx hb dX1_row_10 rfl (lv_at hl 3 rfl) ?_
        obtain ⟨q11, hc_11, hF⟩ := z_bind hF
        refine z_backi (wr := []) (z_goS (wc := []) (As := [.int p0, .int x3]) (rest := []) ⟨hx, hb, hml, hown, hts⟩ hK hN hP hD (mX1_variable l G tt H.size p0 x3 q11 hc_11) (va_cwS 2 hts gX1_row_X1_variable rfl rfl rfl (by decide +kernel) ⟨Nat.le_of_ble_eq_true rfl, Nat.le_of_ble_eq_true rfl⟩) [] rfl (by decide +kernel) rfl hl.1 rfl (Nat.le_of_ble_eq_true rfl) dX1_row_11 ⟨Nat.zero_le _, Nat.zero_le _⟩) hP hD hS hA [] [] rfl rfl (by decide +kernel) (by decide +kernel) (fun r u H locs hw hP hD hS => ?_)
        replace hw := hw.symm; subst hw
        refine lv_istore (lv' := [(4, .int q11), (0, .int p0), (1, .int p1), (2, .int x2), (3, .int x3)]) hx hb dX1_row_14 hl (by decide) rfl (fun ls hl => ?_)
        refine lv_iload_n hx hb dX1_row_16 rfl (lv_at hl 3 rfl) ?_
        refine lv_iconst (v := (3 : Int32)) hx hb dX1_row_17 (by decide) ?_
        refine lv_ishl hx hb dX1_row_18 ?_
        refine lv_iload hx hb dX1_row_19 (lv_at hl 0 rfl) ?_
        refine lv_iconst (v := (-1 : Int32)) hx hb dX1_row_21 (by decide) ?_
        refine lv_icmp_ne (tgt := 29) hx hb dX1_row_22 (by decide) (fun c_22 => ?_) (fun c_22 => ?_)
        · have hF := z_f c_22 hF
          refine lv_iload hx hb dX1_row_29 (lv_at hl 0 rfl) ?_
          refine lv_iload_n hx hb dX1_row_31 rfl (lv_at hl 2 rfl) ?_
          obtain ⟨q32, hc_32, hF⟩ := z_bind hF
          refine z_backi (wr := []) (z_goS (wc := []) (As := [.int q11, .int p1]) (rest := [.int (x2 <<< ((3 : Int32) &&& 31))]) ⟨hx, hb, hml, hown, hts⟩ hK hN hP hD (mX1_valueOf l G tt H.size q11 p1 q32 hc_32) (va_cwS 2 hts gX1_row_X1_valueOf rfl rfl rfl (by decide +kernel) ⟨Nat.le_of_ble_eq_true rfl, Nat.le_of_ble_eq_true rfl⟩) [] rfl (by decide +kernel) rfl hl.1 rfl (Nat.le_of_ble_eq_true rfl) dX1_row_32 ⟨Nat.zero_le _, Nat.zero_le _⟩) hP hD hS hA [] [] rfl rfl (by decide +kernel) (by decide +kernel) (fun r u H locs hw hP hD hS => ?_)
          replace hw := hw.symm; subst hw
          exact hb35 _ _ _ _ _ _ hF hP hD hS (lv_sub hl [1, 2, 4] rfl)
        · have hF := z_t c_22 hF
          refine lv_iconst (v := (0 : Int32)) hx hb dX1_row_25 (by decide) ?_
          refine lv_goto (tgt := 35) hx hb dX1_row_26 (by decide) ?_
          exact hb35 _ _ _ _ _ _ hF hP hD hS (lv_sub hl [1, 2, 4] rfl)
  obtain ⟨H, hHe⟩ : ∃ H : Heap, s.heap = H := ⟨_, rfl⟩
  have hS : va_S A s.heap H [] := by rw [← hHe]; exact va_S.rf
  rw [hHe] at hP ⊢
  unfold fX1_row at hF
  refine lv_iconst (v := (0 : Int32)) hx hb dX1_row_0 (by decide) ?_
  refine lv_istore_n (lv' := [(2, .int (0 : Int32)), (0, .int p0), (1, .int p1)]) hx hb dX1_row_1 rfl hl (by decide) rfl (fun ls hl => ?_)
  refine lv_iconst (v := (0 : Int32)) hx hb dX1_row_2 (by decide) ?_
  refine lv_istore_n (lv' := [(3, .int (0 : Int32)), (2, .int (0 : Int32)), (0, .int p0), (1, .int p1)]) hx hb dX1_row_3 rfl hl (by decide) rfl (fun ls hl => ?_)
  exact hb4 K _ _ _ _ _ hF hP hD hS (lv_sub hl [2, 3, 1, 0] rfl)

set_option maxHeartbeats 8000000 in
set_option maxRecDepth 100000 in
theorem mX7_word (l : Launch) (G : va_G) (tt : Nat → ClassId) (sz : Nat) (ah : Nat) (ah_words : Nat) (vh_words : Nat → Int64) (p1 : Int32) (p2 : Int32) (RR : Int64) (hF : fX7_word vh_words p1 p2 = some RR) : Met l yX7_word wsX7_word ({ frames := 0, cells := 0, slots := 0, locals := 0 } : Room) (zPre G (zTy tt) [.ref ah, .int p1, .int p2] sz [(ah, .inr (6, [.ref ah_words])), (ah_words, .inl (tt 1, 40, .inr (.inl vh_words)))]) (va_Ql (fun (r : Int64) (_ : Unit) => r = RR) (zAt G (zTy tt) (va_A [(ah, .inr (6, [.ref ah_words])), (ah_words, .inl (tt 1, 40, .inr (.inl vh_words)))] sz) (fun _ : Unit => [(ah, .inr (6, [.ref ah_words])), (ah_words, .inl (tt 1, 40, .inr (.inl vh_words)))])) (va_A [(ah, .inr (6, [.ref ah_words])), (ah_words, .inl (tt 1, 40, .inr (.inl vh_words)))] sz)) 0 0 (va_A [(ah, .inr (6, [.ref ah_words])), (ah_words, .inl (tt 1, 40, .inr (.inl vh_words)))] sz) := by
  refine Met.ofW (cc := cX7_word) (maxL := 4) (ret := (some .long)) (by decide +kernel) rfl ?_
  intro p e s m args below meth c s₁ B hml hv
  obtain ⟨rfl, hsz, hP, hK, hD0, hN⟩ := hv
  have hx := B.exec
  have hb := B.bytes
  have hr := B.returns
  have hts := atoms_spec (ws := wsX7_word) B.pre
  have hown : s.vm.findClass RX7 = some m.cls := findClass_of_methodNamed B.named
  have hlocks := B.notSynchronized
  subst hsz
  have hD := hD0.self (sz := s.heap.size)
  generalize hAe : va_A [(ah, .inr (6, [.ref ah_words])), (ah_words, .inl (tt 1, 40, .inr (.inl vh_words)))] s.heap.size = A at hD ⊢
  have hA : ∀ q : Nat, s.heap.size ≤ q → A q := fun q h => by rw [← hAe]; exact Or.inr h
  have hP : va_P G vwCl [(ah, .inr (6, [.ref ah_words])), (ah_words, .inl (tt 1, 40, .inr (.inl vh_words)))] s.heap := hP
  have hiX7 : ∀ w ∈ wsX70, w ∈ wsX7_word := by decide +kernel
  have hl := lv_entry ([.ref ah, .int p1, .int p2]) (n := 4) (Nat.le_of_ble_eq_true rfl)
  rw [lg_entry_eq]
  generalize (lg_sl ([.ref ah, .int p1, .int p2]) ++ List.replicate (4 - (lg_sl ([.ref ah, .int p1, .int p2])).length) Slot.unset).toArray = ls at hl ⊢
  have hl : lv_has ls 4 [(0, .ref ah), (1, .int p1), (2, .int p2)] := hl
  obtain ⟨H, hHe⟩ : ∃ H : Heap, s.heap = H := ⟨_, rfl⟩
  have hS : va_S A s.heap H [] := by rw [← hHe]; exact va_S.rf
  rw [hHe] at hP ⊢
  unfold fX7_word at hF
  refine lv_iload_n hx hb dX7_word_0 rfl (lv_at hl 1 rfl) ?_
  refine lv_bipush (v := (8 : Int32)) hx hb dX7_word_1 (by decide) ?_
  refine lv_imul hx hb dX7_word_3 ?_
  refine lv_iload_n hx hb dX7_word_4 rfl (lv_at hl 2 rfl) ?_
  refine lv_iadd hx hb dX7_word_5 ?_
  refine lv_istore_n (lv' := [(3, .int ((p1 * (8 : Int32)) + p2)), (0, .ref ah), (1, .int p1), (2, .int p2)]) hx hb dX7_word_6 rfl hl (by decide) rfl (fun ls hl => ?_)
  refine lv_iload_n hx hb dX7_word_7 rfl (lv_at hl 0 rfl) ?_
  refine lv_if_lt (tgt := 29) hx hb dX7_word_8 (by decide) (fun c_8 => ?_) (fun c_8 => ?_)
  · have hF := z_t c_8 hF
    refine lv_lconst (v := (0 : Int64)) hx hb dX7_word_29 (by decide) ?_
    have hPD : zPD G A [(ah, .inr (6, [.ref ah_words])), (ah_words, .inl (tt 1, 40, .inr (.inl vh_words)))] H := ⟨hP.sub [0, 1] rfl, hD.sub [0, 1] (by decide +kernel) rfl⟩
    have hP9 := hPD.1
    have hD9 := hPD.2
    have hR := Option.some.inj hF
    exact W.lret (v := (0 : Int64)) hx hb hr (fun t ht hW => ⟨⟨(0 : Int64), (), rfl, (by subst hR; rfl), by rw [ht]; exact hP9, va_K.moved hW.alike hK, hD9⟩, hS.F ht⟩) hS.2.2 dX7_word_30
  · have hF := z_f c_8 hF
    refine lv_iload_n hx hb dX7_word_11 rfl (lv_at hl 0 rfl) ?_
    refine lv_aload_n hx hb dX7_word_12 rfl (lv_at hl 1 rfl) ?_
    refine va_get (D := G) (ci := 6) (v := .ref ah_words) (C := RX7) (T := TX7) (N := 1) hx hb hts hiX7 hown hK hP 0 rfl rfl 0 (by decide) (hts (.fieldLink RX7 9 "LeapTables$Rows" "words" "[J") (List.mem_of_getElem? (i := 1) rfl)) (fun _ h9 => h9) rfl dX7_word_13 ?_
    refine va_alen (v := (40 : Int32)) hx hb hK hP 1 1 rfl rfl (by first | rfl | decide) dX7_word_16 ?_
    refine lv_icmp_ge (tgt := 29) hx hb dX7_word_17 (by decide) (fun c_17 => ?_) (fun c_17 => ?_)
    · have hF := z_t c_17 hF
      refine lv_lconst (v := (0 : Int64)) hx hb dX7_word_29 (by decide) ?_
      have hPD : zPD G A [(ah, .inr (6, [.ref ah_words])), (ah_words, .inl (tt 1, 40, .inr (.inl vh_words)))] H := ⟨hP.sub [0, 1] rfl, hD.sub [0, 1] (by decide +kernel) rfl⟩
      have hP9 := hPD.1
      have hD9 := hPD.2
      have hR := Option.some.inj hF
      exact W.lret (v := (0 : Int64)) hx hb hr (fun t ht hW => ⟨⟨(0 : Int64), (), rfl, (by subst hR; rfl), by rw [ht]; exact hP9, va_K.moved hW.alike hK, hD9⟩, hS.F ht⟩) hS.2.2 dX7_word_30
    · have hF := z_f c_17 hF
      refine lv_aload_n hx hb dX7_word_20 rfl (lv_at hl 1 rfl) ?_
      refine va_get (D := G) (ci := 6) (v := .ref ah_words) (C := RX7) (T := TX7) (N := 1) hx hb hts hiX7 hown hK hP 0 rfl rfl 0 (by decide) (hts (.fieldLink RX7 9 "LeapTables$Rows" "words" "[J") (List.mem_of_getElem? (i := 1) rfl)) (fun _ h9 => h9) rfl dX7_word_21 ?_
      refine lv_iload_n hx hb dX7_word_24 rfl (lv_at hl 0 rfl) ?_
      obtain ⟨h_25, hF⟩ := z_in hF
      refine va_lald hx hb hK hP 1 1 rfl rfl h_25 dX7_word_25 ?_
      refine lv_goto (tgt := 30) hx hb dX7_word_26 (by decide) ?_
      have hPD : zPD G A [(ah, .inr (6, [.ref ah_words])), (ah_words, .inl (tt 1, 40, .inr (.inl vh_words)))] H := ⟨hP.sub [0, 1] rfl, hD.sub [0, 1] (by decide +kernel) rfl⟩
      have hP9 := hPD.1
      have hD9 := hPD.2
      have hR := Option.some.inj hF
      exact W.lret (v := (vh_words ((p1 * (8 : Int32)) + p2).toNatClampNeg)) hx hb hr (fun t ht hW => ⟨⟨(vh_words ((p1 * (8 : Int32)) + p2).toNatClampNeg), (), rfl, (by subst hR; rfl), by rw [ht]; exact hP9, va_K.moved hW.alike hK, hD9⟩, hS.F ht⟩) hS.2.2 dX7_word_30

set_option maxHeartbeats 8000000 in
set_option maxRecDepth 100000 in
theorem mX2_at (l : Launch) (G : va_G) (tt : Nat → ClassId) (sz : Nat) (ah : Nat) (ah_codes : Nat) (ah_codes_cells : Nat) (vh_codes_cells : Nat → Int32) (vh_size : Int32) (p1 : Int32) (RR : Int32) (hF : fX2_at vh_codes_cells p1 = some RR) : Met l yX2_at wsX2_at ({ frames := 1, cells := 0, slots := 0, locals := 21 } : Room) (zPre G (zTy tt) [.ref ah, .int p1] sz [(ah, .inr (1, [.ref ah_codes, .int vh_size])), (ah_codes, .inr (5, [.ref ah_codes_cells])), (ah_codes_cells, .inl (tt 0, 5, .inl vh_codes_cells))]) (va_Qi (fun (r : Int32) (_ : Unit) => r = RR) (zAt G (zTy tt) (va_A [(ah, .inr (1, [.ref ah_codes, .int vh_size])), (ah_codes, .inr (5, [.ref ah_codes_cells])), (ah_codes_cells, .inl (tt 0, 5, .inl vh_codes_cells))] sz) (fun _ : Unit => [(ah, .inr (1, [.ref ah_codes, .int vh_size])), (ah_codes, .inr (5, [.ref ah_codes_cells])), (ah_codes_cells, .inl (tt 0, 5, .inl vh_codes_cells))])) (va_A [(ah, .inr (1, [.ref ah_codes, .int vh_size])), (ah_codes, .inr (5, [.ref ah_codes_cells])), (ah_codes_cells, .inl (tt 0, 5, .inl vh_codes_cells))] sz)) 0 0 (va_A [(ah, .inr (1, [.ref ah_codes, .int vh_size])), (ah_codes, .inr (5, [.ref ah_codes_cells])), (ah_codes_cells, .inl (tt 0, 5, .inl vh_codes_cells))] sz) := by
  refine Met.ofW (cc := cX2_at) (maxL := 2) (ret := (some .int)) (by decide +kernel) rfl ?_
  intro p e s m args below meth c s₁ B hml hv
  obtain ⟨rfl, hsz, hP, hK, hD0, hN⟩ := hv
  have hx := B.exec
  have hb := B.bytes
  have hr := B.returns
  have hts := atoms_spec (ws := wsX2_at) B.pre
  have hown : s.vm.findClass RX2 = some m.cls := findClass_of_methodNamed B.named
  have hlocks := B.notSynchronized
  subst hsz
  have hD := hD0.self (sz := s.heap.size)
  generalize hAe : va_A [(ah, .inr (1, [.ref ah_codes, .int vh_size])), (ah_codes, .inr (5, [.ref ah_codes_cells])), (ah_codes_cells, .inl (tt 0, 5, .inl vh_codes_cells))] s.heap.size = A at hD ⊢
  have hA : ∀ q : Nat, s.heap.size ≤ q → A q := fun q h => by rw [← hAe]; exact Or.inr h
  have hP : va_P G vwCl [(ah, .inr (1, [.ref ah_codes, .int vh_size])), (ah_codes, .inr (5, [.ref ah_codes_cells])), (ah_codes_cells, .inl (tt 0, 5, .inl vh_codes_cells))] s.heap := hP
  have hiX2 : ∀ w ∈ wsX20, w ∈ wsX2_at := by decide +kernel
  have hl := lv_entry ([.ref ah, .int p1]) (n := 2) (Nat.le_of_ble_eq_true rfl)
  rw [lg_entry_eq]
  generalize (lg_sl ([.ref ah, .int p1]) ++ List.replicate (2 - (lg_sl ([.ref ah, .int p1])).length) Slot.unset).toArray = ls at hl ⊢
  have hl : lv_has ls 2 [(0, .ref ah), (1, .int p1)] := hl
  obtain ⟨H, hHe⟩ : ∃ H : Heap, s.heap = H := ⟨_, rfl⟩
  have hS : va_S A s.heap H [] := by rw [← hHe]; exact va_S.rf
  rw [hHe] at hP ⊢
  unfold fX2_at at hF
  refine lv_aload_n hx hb dX2_at_0 rfl (lv_at hl 0 rfl) ?_
  refine va_get (D := G) (ci := 1) (v := .ref ah_codes) (C := RX2) (T := TX2) (N := 2) hx hb hts hiX2 hown hK hP 0 rfl rfl 0 (by decide) (hts (.fieldLink RX2 14 "LeapTables$AtomList" "codes" "LLeapTables$Ints;") (List.mem_of_getElem? (i := 1) rfl)) (fun _ h9 => h9) rfl dX2_at_1 ?_
  refine lv_iload_n hx hb dX2_at_4 rfl (lv_at hl 1 rfl) ?_
  obtain ⟨q5, hc_5, hF⟩ := z_bind hF
  refine z_backi (wr := [(ah, .inr (1, [.ref ah_codes, .int vh_size]))]) (z_goV (wc := [(ah_codes, .inr (5, [.ref ah_codes_cells])), (ah_codes_cells, .inl (tt 0, 5, .inl vh_codes_cells))]) (As := [.int p1]) (rest := []) (ci := 5) ⟨hx, hb, hml, hown, hts⟩ hK hN hP hD (mX6_at l G tt H.size 5 ah_codes ah_codes_cells vh_codes_cells p1 q5 hc_5) (cwV 1 hts gX2_at_X6_at rfl rfl rfl (by decide +kernel) ⟨Nat.le_of_ble_eq_true rfl, Nat.le_of_ble_eq_true rfl⟩) [1, 2] rfl (by decide +kernel) rfl rfl rfl hl.1 rfl (Nat.le_of_ble_eq_true rfl) dX2_at_5 ⟨Nat.zero_le _, Nat.zero_le _⟩) hP hD hS hA [1, 2] [0] rfl rfl (by decide +kernel) (by decide +kernel) (fun r u H locs hw hP hD hS => ?_)
  replace hw := hw.symm; subst hw
  have hPD : zPD G A [(ah, .inr (1, [.ref ah_codes, .int vh_size])), (ah_codes, .inr (5, [.ref ah_codes_cells])), (ah_codes_cells, .inl (tt 0, 5, .inl vh_codes_cells))] H := ⟨hP.sub [0, 1, 2] rfl, hD.sub [0, 1, 2] (by decide +kernel) rfl⟩
  have hP9 := hPD.1
  have hD9 := hPD.2
  have hR := Option.some.inj hF
  exact W.iret (v := q5) hx hb hr (fun t ht hW => ⟨⟨q5, (), rfl, (by subst hR; rfl), by rw [ht]; exact hP9, va_K.moved hW.alike hK, hD9⟩, hS.F ht⟩) hS.2.2 dX2_at_8

set_option maxHeartbeats 8000000 in
set_option maxRecDepth 100000 in
theorem mX2_add (l : Launch) (G : va_G) (tt : Nat → ClassId) (sz : Nat) (ah : Nat) (ah_codes : Nat) (ah_codes_cells : Nat) (vh_codes_cells : Nat → Int32) (vh_size : Int32) (p1 : Int32) (RR : (Nat → Int32) × Int32) (hF : fX2_add p1 vh_codes_cells vh_size = some RR) : Met l yX2_add wsX2_add ({ frames := 1, cells := 0, slots := 0, locals := 22 } : Room) (zPre G (zTy tt) [.ref ah, .int p1] sz [(ah, .inr (1, [.ref ah_codes, .int vh_size])), (ah_codes, .inr (5, [.ref ah_codes_cells])), (ah_codes_cells, .inl (tt 0, 5, .inl vh_codes_cells))]) (va_Qv (fun u : (Nat → Int32) × Int32 => u = RR) (zAt G (zTy tt) (va_A [(ah, .inr (1, [.ref ah_codes, .int vh_size])), (ah_codes, .inr (5, [.ref ah_codes_cells])), (ah_codes_cells, .inl (tt 0, 5, .inl vh_codes_cells))] sz) (fun u : (Nat → Int32) × Int32 => [(ah, .inr (1, [.ref ah_codes, .int u.2])), (ah_codes, .inr (5, [.ref ah_codes_cells])), (ah_codes_cells, .inl (tt 0, 5, .inl u.1))])) (va_A [(ah, .inr (1, [.ref ah_codes, .int vh_size])), (ah_codes, .inr (5, [.ref ah_codes_cells])), (ah_codes_cells, .inl (tt 0, 5, .inl vh_codes_cells))] sz)) 0 0 (va_A [(ah, .inr (1, [.ref ah_codes, .int vh_size])), (ah_codes, .inr (5, [.ref ah_codes_cells])), (ah_codes_cells, .inl (tt 0, 5, .inl vh_codes_cells))] sz) := by
  refine Met.ofW (cc := cX2_add) (maxL := 2) (ret := none) (by decide +kernel) rfl ?_
  intro p e s m args below meth c s₁ B hml hv
  obtain ⟨rfl, hsz, hP, hK, hD0, hN⟩ := hv
  have hx := B.exec
  have hb := B.bytes
  have hr := B.returns
  have hts := atoms_spec (ws := wsX2_add) B.pre
  have hown : s.vm.findClass RX2 = some m.cls := findClass_of_methodNamed B.named
  have hlocks := B.notSynchronized
  subst hsz
  have hD := hD0.self (sz := s.heap.size)
  generalize hAe : va_A [(ah, .inr (1, [.ref ah_codes, .int vh_size])), (ah_codes, .inr (5, [.ref ah_codes_cells])), (ah_codes_cells, .inl (tt 0, 5, .inl vh_codes_cells))] s.heap.size = A at hD ⊢
  have hA : ∀ q : Nat, s.heap.size ≤ q → A q := fun q h => by rw [← hAe]; exact Or.inr h
  have hP : va_P G vwCl [(ah, .inr (1, [.ref ah_codes, .int vh_size])), (ah_codes, .inr (5, [.ref ah_codes_cells])), (ah_codes_cells, .inl (tt 0, 5, .inl vh_codes_cells))] s.heap := hP
  have hiX2 : ∀ w ∈ wsX20, w ∈ wsX2_add := by decide +kernel
  have hl := lv_entry ([.ref ah, .int p1]) (n := 2) (Nat.le_of_ble_eq_true rfl)
  rw [lg_entry_eq]
  generalize (lg_sl ([.ref ah, .int p1]) ++ List.replicate (2 - (lg_sl ([.ref ah, .int p1])).length) Slot.unset).toArray = ls at hl ⊢
  have hl : lv_has ls 2 [(0, .ref ah), (1, .int p1)] := hl
  obtain ⟨H, hHe⟩ : ∃ H : Heap, s.heap = H := ⟨_, rfl⟩
  have hS : va_S A s.heap H [] := by rw [← hHe]; exact va_S.rf
  rw [hHe] at hP ⊢
  unfold fX2_add at hF
  refine lv_aload_n hx hb dX2_add_0 rfl (lv_at hl 0 rfl) ?_
  refine va_get (D := G) (ci := 1) (v := .int vh_size) (C := RX2) (T := TX2) (N := 2) hx hb hts hiX2 hown hK hP 0 rfl rfl 1 (by decide) (hts (.fieldLink RX2 24 "LeapTables$AtomList" "size" "I") (List.mem_of_getElem? (i := 1) rfl)) (fun _ h9 => h9) rfl dX2_add_1 ?_
  refine lv_iconst (v := (5 : Int32)) hx hb dX2_add_4 (by decide) ?_
  refine lv_icmp_ge (tgt := 30) hx hb dX2_add_5 (by decide) (fun c_5 => ?_) (fun c_5 => ?_)
  · have hF := z_t c_5 hF
    have hPD : zPD G A [(ah, .inr (1, [.ref ah_codes, .int vh_size])), (ah_codes, .inr (5, [.ref ah_codes_cells])), (ah_codes_cells, .inl (tt 0, 5, .inl vh_codes_cells))] H := ⟨hP.sub [0, 1, 2] rfl, hD.sub [0, 1, 2] (by decide +kernel) rfl⟩
    have hP9 := hPD.1
    have hD9 := hPD.2
    have hR := Option.some.inj hF
    exact W.vret hx hb hr (fun t ht hW => ⟨⟨(vh_codes_cells, vh_size), rfl, (by subst hR; rfl), by rw [ht]; exact hP9, va_K.moved hW.alike hK, hD9⟩, hS.F ht⟩) hS.2.2 dX2_add_30
  · have hF := z_f c_5 hF
    refine lv_aload_n hx hb dX2_add_8 rfl (lv_at hl 0 rfl) ?_
    refine va_get (D := G) (ci := 1) (v := .ref ah_codes) (C := RX2) (T := TX2) (N := 2) hx hb hts hiX2 hown hK hP 0 rfl rfl 0 (by decide) (hts (.fieldLink RX2 14 "LeapTables$AtomList" "codes" "LLeapTables$Ints;") (List.mem_of_getElem? (i := 2) rfl)) (fun _ h9 => h9) rfl dX2_add_9 ?_
    refine lv_aload_n hx hb dX2_add_12 rfl (lv_at hl 0 rfl) ?_
    refine va_get (D := G) (ci := 1) (v := .int vh_size) (C := RX2) (T := TX2) (N := 2) hx hb hts hiX2 hown hK hP 0 rfl rfl 1 (by decide) (hts (.fieldLink RX2 24 "LeapTables$AtomList" "size" "I") (List.mem_of_getElem? (i := 1) rfl)) (fun _ h9 => h9) rfl dX2_add_13 ?_
    refine lv_iload_n hx hb dX2_add_16 rfl (lv_at hl 1 rfl) ?_
    obtain ⟨q17, hc_17, hF⟩ := z_bind hF
    refine z_backv (wr := [(ah, .inr (1, [.ref ah_codes, .int vh_size]))]) (z_goV (wc := [(ah_codes, .inr (5, [.ref ah_codes_cells])), (ah_codes_cells, .inl (tt 0, 5, .inl vh_codes_cells))]) (As := [.int vh_size, .int p1]) (rest := []) (ci := 5) ⟨hx, hb, hml, hown, hts⟩ hK hN hP hD (mX6_put l G tt H.size 5 ah_codes ah_codes_cells vh_codes_cells vh_size p1 q17 hc_17) (cwV 2 hts gX2_add_X6_put rfl rfl rfl (by decide +kernel) ⟨Nat.le_of_ble_eq_true rfl, Nat.le_of_ble_eq_true rfl⟩) [1, 2] rfl (by decide +kernel) rfl rfl rfl hl.1 rfl (Nat.le_of_ble_eq_true rfl) dX2_add_17 ⟨Nat.zero_le _, Nat.zero_le _⟩) hP hD hS hA [1, 2] [0] rfl rfl (by decide +kernel) (by decide +kernel) (fun u H locs hw hP hD hS => ?_)
    replace hw := hw.symm; subst hw
    refine lv_aload_n hx hb dX2_add_20 rfl (lv_at hl 0 rfl) ?_
    refine lv_dup hx hb dX2_add_21 rfl ?_
    refine va_get (D := G) (ci := 1) (v := .int vh_size) (C := RX2) (T := TX2) (N := 2) hx hb hts hiX2 hown hK hP 0 rfl rfl 1 (by decide) (hts (.fieldLink RX2 24 "LeapTables$AtomList" "size" "I") (List.mem_of_getElem? (i := 1) rfl)) (fun _ h9 => h9) rfl dX2_add_22 ?_
    refine lv_iconst (v := (1 : Int32)) hx hb dX2_add_25 (by decide) ?_
    refine lv_iadd hx hb dX2_add_26 ?_
    refine va_put (D := G) (ci := 1) (v := .int (vh_size + (1 : Int32))) (ty := .int) (C := RX2) (T := TX2) (N := 2) hx hb hts hiX2 tyX2 tyX2_ok nmX2 hown hK hP hD hS 0 rfl rfl 1 (by decide) (hts (.fieldLink RX2 24 "LeapTables$AtomList" "size" "I") (List.mem_of_getElem? (i := 1) rfl)) (fun _ h9 => h9) rfl (by decide +kernel) rfl rfl (Nat.le_of_ble_eq_true rfl) dX2_add_27 (fun H locs hP hD hS => ?_)
    have hPD : zPD G A [(ah, .inr (1, [.ref ah_codes, .int (vh_size + (1 : Int32))])), (ah_codes, .inr (5, [.ref ah_codes_cells])), (ah_codes_cells, .inl (tt 0, 5, .inl q17))] H := ⟨hP.sub [0, 1, 2] rfl, hD.sub [0, 1, 2] (by decide +kernel) rfl⟩
    have hP9 := hPD.1
    have hD9 := hPD.2
    have hR := Option.some.inj hF
    exact W.vret hx hb hr (fun t ht hW => ⟨⟨(q17, (vh_size + (1 : Int32))), rfl, (by subst hR; rfl), by rw [ht]; exact hP9, va_K.moved hW.alike hK, hD9⟩, hS.F ht⟩) hS.2.2 dX2_add_30

set_option maxHeartbeats 8000000 in
set_option maxRecDepth 100000 in
theorem mX2_clear (l : Launch) (G : va_G) (tt : Nat → ClassId) (sz : Nat) (ah : Nat) (ah_codes : Nat) (ah_codes_cells : Nat) (vh_codes_cells : Nat → Int32) (vh_size : Int32) (RR : Int32) (hF : fX2_clear vh_size = some RR) : Met l yX2_clear wsX2_clear ({ frames := 0, cells := 0, slots := 0, locals := 0 } : Room) (zPre G (zTy tt) [.ref ah] sz [(ah, .inr (1, [.ref ah_codes, .int vh_size])), (ah_codes, .inr (5, [.ref ah_codes_cells])), (ah_codes_cells, .inl (tt 0, 5, .inl vh_codes_cells))]) (va_Qv (fun u : Int32 => u = RR) (zAt G (zTy tt) (va_A [(ah, .inr (1, [.ref ah_codes, .int vh_size])), (ah_codes, .inr (5, [.ref ah_codes_cells])), (ah_codes_cells, .inl (tt 0, 5, .inl vh_codes_cells))] sz) (fun u : Int32 => [(ah, .inr (1, [.ref ah_codes, .int u])), (ah_codes, .inr (5, [.ref ah_codes_cells])), (ah_codes_cells, .inl (tt 0, 5, .inl vh_codes_cells))])) (va_A [(ah, .inr (1, [.ref ah_codes, .int vh_size])), (ah_codes, .inr (5, [.ref ah_codes_cells])), (ah_codes_cells, .inl (tt 0, 5, .inl vh_codes_cells))] sz)) 0 0 (va_A [(ah, .inr (1, [.ref ah_codes, .int vh_size])), (ah_codes, .inr (5, [.ref ah_codes_cells])), (ah_codes_cells, .inl (tt 0, 5, .inl vh_codes_cells))] sz) := by
  refine Met.ofW (cc := cX2_clear) (maxL := 1) (ret := none) (by decide +kernel) rfl ?_
  intro p e s m args below meth c s₁ B hml hv
  obtain ⟨rfl, hsz, hP, hK, hD0, hN⟩ := hv
  have hx := B.exec
  have hb := B.bytes
  have hr := B.returns
  have hts := atoms_spec (ws := wsX2_clear) B.pre
  have hown : s.vm.findClass RX2 = some m.cls := findClass_of_methodNamed B.named
  have hlocks := B.notSynchronized
  subst hsz
  have hD := hD0.self (sz := s.heap.size)
  generalize hAe : va_A [(ah, .inr (1, [.ref ah_codes, .int vh_size])), (ah_codes, .inr (5, [.ref ah_codes_cells])), (ah_codes_cells, .inl (tt 0, 5, .inl vh_codes_cells))] s.heap.size = A at hD ⊢
  have hA : ∀ q : Nat, s.heap.size ≤ q → A q := fun q h => by rw [← hAe]; exact Or.inr h
  have hP : va_P G vwCl [(ah, .inr (1, [.ref ah_codes, .int vh_size])), (ah_codes, .inr (5, [.ref ah_codes_cells])), (ah_codes_cells, .inl (tt 0, 5, .inl vh_codes_cells))] s.heap := hP
  have hiX2 : ∀ w ∈ wsX20, w ∈ wsX2_clear := by decide +kernel
  have hl := lv_entry ([.ref ah]) (n := 1) (Nat.le_of_ble_eq_true rfl)
  rw [lg_entry_eq]
  generalize (lg_sl ([.ref ah]) ++ List.replicate (1 - (lg_sl ([.ref ah])).length) Slot.unset).toArray = ls at hl ⊢
  have hl : lv_has ls 1 [(0, .ref ah)] := hl
  obtain ⟨H, hHe⟩ : ∃ H : Heap, s.heap = H := ⟨_, rfl⟩
  have hS : va_S A s.heap H [] := by rw [← hHe]; exact va_S.rf
  rw [hHe] at hP ⊢
  unfold fX2_clear at hF
  refine lv_aload_n hx hb dX2_clear_0 rfl (lv_at hl 0 rfl) ?_
  refine lv_iconst (v := (0 : Int32)) hx hb dX2_clear_1 (by decide) ?_
  refine va_put (D := G) (ci := 1) (v := .int (0 : Int32)) (ty := .int) (C := RX2) (T := TX2) (N := 2) hx hb hts hiX2 tyX2 tyX2_ok nmX2 hown hK hP hD hS 0 rfl rfl 1 (by decide) (hts (.fieldLink RX2 24 "LeapTables$AtomList" "size" "I") (List.mem_of_getElem? (i := 1) rfl)) (fun _ h9 => h9) rfl (by decide +kernel) rfl rfl (Nat.le_of_ble_eq_true rfl) dX2_clear_2 (fun H locs hP hD hS => ?_)
  have hPD : zPD G A [(ah, .inr (1, [.ref ah_codes, .int (0 : Int32)])), (ah_codes, .inr (5, [.ref ah_codes_cells])), (ah_codes_cells, .inl (tt 0, 5, .inl vh_codes_cells))] H := ⟨hP.sub [0, 1, 2] rfl, hD.sub [0, 1, 2] (by decide +kernel) rfl⟩
  have hP9 := hPD.1
  have hD9 := hPD.2
  have hR := Option.some.inj hF
  exact W.vret hx hb hr (fun t ht hW => ⟨⟨((0 : Int32)), rfl, (by subst hR; rfl), by rw [ht]; exact hP9, va_K.moved hW.alike hK, hD9⟩, hS.F ht⟩) hS.2.2 dX2_clear_5
