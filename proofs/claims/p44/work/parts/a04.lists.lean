/-! Ints, AtomList, Rows: loops -/
set_option maxHeartbeats 8000000 in
set_option maxRecDepth 100000 in
theorem mX6_copyFrom (l : Launch) (G : va_G) (tt : Nat → ClassId) (sz : Nat) (K : Nat) (n : Nat) (n2 : Nat) (ah : Nat) (ah_cells : Nat) (vh_cells : Nat → Int32) (ag1 : Nat) (ag1_cells : Nat) (vg1_cells : Nat → Int32) (RR : (Nat → Int32)) (hF : fX6_copyFrom K n n2 vg1_cells vh_cells = some RR) : Met l yX6_copyFrom wsX6_copyFrom ({ frames := 0, cells := 0, slots := 0, locals := 0 } : Room) (zPre G (zTy tt) [.ref ah, .ref ag1] sz [(ah, .inr (5, [.ref ah_cells])), (ah_cells, .inl (tt 0, n, .inl vh_cells)), (ag1, .inr (5, [.ref ag1_cells])), (ag1_cells, .inl (tt 0, n2, .inl vg1_cells))]) (va_Qv (fun u : (Nat → Int32) => u = RR) (zAt G (zTy tt) (va_A [(ah, .inr (5, [.ref ah_cells])), (ah_cells, .inl (tt 0, n, .inl vh_cells)), (ag1, .inr (5, [.ref ag1_cells])), (ag1_cells, .inl (tt 0, n2, .inl vg1_cells))] sz) (fun u : (Nat → Int32) => [(ah, .inr (5, [.ref ah_cells])), (ah_cells, .inl (tt 0, n, .inl u)), (ag1, .inr (5, [.ref ag1_cells])), (ag1_cells, .inl (tt 0, n2, .inl vg1_cells))])) (va_A [(ah, .inr (5, [.ref ah_cells])), (ah_cells, .inl (tt 0, n, .inl vh_cells)), (ag1, .inr (5, [.ref ag1_cells])), (ag1_cells, .inl (tt 0, n2, .inl vg1_cells))] sz)) 0 0 (va_A [(ah, .inr (5, [.ref ah_cells])), (ah_cells, .inl (tt 0, n, .inl vh_cells)), (ag1, .inr (5, [.ref ag1_cells])), (ag1_cells, .inl (tt 0, n2, .inl vg1_cells))] sz) := by
  refine Met.ofW (cc := cX6_copyFrom) (maxL := 3) (ret := none) (by decide +kernel) rfl ?_
  intro p e s m args below meth c s₁ B hml hv
  obtain ⟨rfl, hsz, hP, hK, hD0, hN⟩ := hv
  have hx := B.exec
  have hb := B.bytes
  have hr := B.returns
  have hts := atoms_spec (ws := wsX6_copyFrom) B.pre
  have hown : s.vm.findClass RX6 = some m.cls := findClass_of_methodNamed B.named
  have hlocks := B.notSynchronized
  subst hsz
  have hD := hD0.self (sz := s.heap.size)
  generalize hAe : va_A [(ah, .inr (5, [.ref ah_cells])), (ah_cells, .inl (tt 0, n, .inl vh_cells)), (ag1, .inr (5, [.ref ag1_cells])), (ag1_cells, .inl (tt 0, n2, .inl vg1_cells))] s.heap.size = A at hD ⊢
  have hA : ∀ q : Nat, s.heap.size ≤ q → A q := fun q h => by rw [← hAe]; exact Or.inr h
  have hP : va_P G vwCl [(ah, .inr (5, [.ref ah_cells])), (ah_cells, .inl (tt 0, n, .inl vh_cells)), (ag1, .inr (5, [.ref ag1_cells])), (ag1_cells, .inl (tt 0, n2, .inl vg1_cells))] s.heap := hP
  have hiX6 : ∀ w ∈ wsX60, w ∈ wsX6_copyFrom := by decide +kernel
  have hl := lv_entry ([.ref ah, .ref ag1]) (n := 3) (Nat.le_of_ble_eq_true rfl)
  rw [lg_entry_eq]
  generalize (lg_sl ([.ref ah, .ref ag1]) ++ List.replicate (3 - (lg_sl ([.ref ah, .ref ag1])).length) Slot.unset).toArray = ls at hl ⊢
  have hl : lv_has ls 3 [(0, .ref ah), (1, .ref ag1)] := hl
  have hb2 : ∀ (k2 : Nat) (x2 : Int32) (vh_cells : Nat → Int32) (H : Heap) (locs : List Loc) (ls : Array Slot), fX6_copyFrom_2 K n n2 vg1_cells k2 x2 vh_cells = some RR → va_P G vwCl [(ah, .inr (5, [.ref ah_cells])), (ah_cells, .inl (tt 0, n, .inl vh_cells)), (ag1, .inr (5, [.ref ag1_cells])), (ag1_cells, .inl (tt 0, n2, .inl vg1_cells))] H → va_D A [(ah, .inr (5, [.ref ah_cells])), (ah_cells, .inl (tt 0, n, .inl vh_cells)), (ag1, .inr (5, [.ref ag1_cells])), (ag1_cells, .inl (tt 0, n2, .inl vg1_cells))] → va_S A s.heap H locs → lv_has ls 3 [(0, .ref ah), (1, .ref ag1), (2, .int x2)] → W p l e (headSpec wsX6_copyFrom ({ frames := 0, cells := 0, slots := 0, locals := 0 } : Room)).room s m ([.ref ah, .ref ag1] : List Value).toArray below meth c H locs 0 0 (MQ below (va_Qv (fun u : (Nat → Int32) => u = RR) (zAt G (zTy tt) A (fun u : (Nat → Int32) => [(ah, .inr (5, [.ref ah_cells])), (ah_cells, .inl (tt 0, n, .inl u)), (ag1, .inr (5, [.ref ag1_cells])), (ag1_cells, .inl (tt 0, n2, .inl vg1_cells))])) A) ([.ref ah, .ref ag1] : List Value).toArray s 0 0 A) (F0 m 2 ls []) := by
    intro k2
    induction k2 with
    | zero => intro x2 vh_cells H locs ls hF; rw [fX6_copyFrom_2] at hF; cases hF
    | succ k2 ih2 =>
      intro x2 vh_cells H locs ls hF hP hD hS hl
      rw [fX6_copyFrom_2] at hF
      refine lv_iload_n hx hb dX6_copyFrom_2 rfl (lv_at hl 2 rfl) ?_
      refine lv_aload_n hx hb dX6_copyFrom_3 rfl (lv_at hl 0 rfl) ?_
      refine va_get (D := G) (ci := 5) (v := .ref ah_cells) (C := RX6) (T := TX6) (N := 1) hx hb hts hiX6 hown hK hP 0 rfl rfl 0 (by decide) (hts (.fieldLink RX6 7 "LeapTables$Ints" "cells" "[I") (List.mem_of_getElem? (i := 1) rfl)) (fun _ h9 => h9) rfl dX6_copyFrom_4 ?_
      refine va_alen (v := (Int32.ofNat n)) hx hb hK hP 1 0 rfl rfl (by first | rfl | decide) dX6_copyFrom_7 ?_
      refine lv_icmp_ge (tgt := 38) hx hb dX6_copyFrom_8 (by decide) (fun c_8 => ?_) (fun c_8 => ?_)
      · have hF := z_t c_8 hF
        have hPD : zPD G A [(ah, .inr (5, [.ref ah_cells])), (ah_cells, .inl (tt 0, n, .inl vh_cells)), (ag1, .inr (5, [.ref ag1_cells])), (ag1_cells, .inl (tt 0, n2, .inl vg1_cells))] H := ⟨hP.sub [0, 1, 2, 3] rfl, hD.sub [0, 1, 2, 3] (by decide +kernel) rfl⟩
        have hP9 := hPD.1
        have hD9 := hPD.2
        have hR := Option.some.inj hF
        exact W.vret hx hb hr (fun t ht hW => ⟨⟨(vh_cells), rfl, (by subst hR; rfl), by rw [ht]; exact hP9, va_K.moved hW.alike hK, hD9⟩, hS.F ht⟩) hS.2.2 dX6_copyFrom_38
      · have hF := z_f c_8 hF
        refine lv_iload_n hx hb dX6_copyFrom_11 rfl (lv_at hl 2 rfl) ?_
        refine lv_aload_n hx hb dX6_copyFrom_12 rfl (lv_at hl 1 rfl) ?_
        refine va_get (D := G) (ci := 5) (v := .ref ag1_cells) (C := RX6) (T := TX6) (N := 1) hx hb hts hiX6 hown hK hP 2 rfl rfl 0 (by decide) (hts (.fieldLink RX6 7 "LeapTables$Ints" "cells" "[I") (List.mem_of_getElem? (i := 1) rfl)) (fun _ h9 => h9) rfl dX6_copyFrom_13 ?_
        refine va_alen (v := (Int32.ofNat n2)) hx hb hK hP 3 0 rfl rfl (by first | rfl | decide) dX6_copyFrom_16 ?_
        refine lv_icmp_ge (tgt := 38) hx hb dX6_copyFrom_17 (by decide) (fun c_17 => ?_) (fun c_17 => ?_)
        · have hF := z_t c_17 hF
          have hPD : zPD G A [(ah, .inr (5, [.ref ah_cells])), (ah_cells, .inl (tt 0, n, .inl vh_cells)), (ag1, .inr (5, [.ref ag1_cells])), (ag1_cells, .inl (tt 0, n2, .inl vg1_cells))] H := ⟨hP.sub [0, 1, 2, 3] rfl, hD.sub [0, 1, 2, 3] (by decide +kernel) rfl⟩
          have hP9 := hPD.1
          have hD9 := hPD.2
          have hR := Option.some.inj hF
          exact W.vret hx hb hr (fun t ht hW => ⟨⟨(vh_cells), rfl, (by subst hR; rfl), by rw [ht]; exact hP9, va_K.moved hW.alike hK, hD9⟩, hS.F ht⟩) hS.2.2 dX6_copyFrom_38
        · have hF := z_f c_17 hF
          refine lv_aload_n hx hb dX6_copyFrom_20 rfl (lv_at hl 0 rfl) ?_
          refine va_get (D := G) (ci := 5) (v := .ref ah_cells) (C := RX6) (T := TX6) (N := 1) hx hb hts hiX6 hown hK hP 0 rfl rfl 0 (by decide) (hts (.fieldLink RX6 7 "LeapTables$Ints" "cells" "[I") (List.mem_of_getElem? (i := 1) rfl)) (fun _ h9 => h9) rfl dX6_copyFrom_21 ?_
          refine lv_iload_n hx hb dX6_copyFrom_24 rfl (lv_at hl 2 rfl) ?_
          refine lv_aload_n hx hb dX6_copyFrom_25 rfl (lv_at hl 1 rfl) ?_
          refine va_get (D := G) (ci := 5) (v := .ref ag1_cells) (C := RX6) (T := TX6) (N := 1) hx hb hts hiX6 hown hK hP 2 rfl rfl 0 (by decide) (hts (.fieldLink RX6 7 "LeapTables$Ints" "cells" "[I") (List.mem_of_getElem? (i := 1) rfl)) (fun _ h9 => h9) rfl dX6_copyFrom_26 ?_
          refine lv_iload_n hx hb dX6_copyFrom_29 rfl (lv_at hl 2 rfl) ?_
          obtain ⟨h_30, hF⟩ := z_in hF
          refine va_iald hx hb hK hP 3 0 rfl rfl h_30 dX6_copyFrom_30 ?_
          obtain ⟨h_31, hF⟩ := z_in hF
          refine va_iast hx hb hK hP hD hS 1 0 rfl rfl h_31 dX6_copyFrom_31 (fun H locs hP hD hS => ?_)
          refine lv_iinc (v := (x2 + (1 : Int32))) (lv' := [(2, .int (x2 + (1 : Int32))), (0, .ref ah), (1, .ref ag1)]) hx hb dX6_copyFrom_32 hl (k := 2) rfl rfl (by decide) rfl (fun ls hl => ?_)
          refine lv_goto (tgt := 2) hx hb dX6_copyFrom_35 (by decide) ?_
          exact ih2 _ _ _ _ _ hF hP hD hS (lv_sub hl [1, 2, 0] rfl)
  obtain ⟨H, hHe⟩ : ∃ H : Heap, s.heap = H := ⟨_, rfl⟩
  have hS : va_S A s.heap H [] := by rw [← hHe]; exact va_S.rf
  rw [hHe] at hP ⊢
  unfold fX6_copyFrom at hF
  refine lv_iconst (v := (0 : Int32)) hx hb dX6_copyFrom_0 (by decide) ?_
  refine lv_istore_n (lv' := [(2, .int (0 : Int32)), (0, .ref ah), (1, .ref ag1)]) hx hb dX6_copyFrom_1 rfl hl (by decide) rfl (fun ls hl => ?_)
  exact hb2 K _ _ _ _ _ hF hP hD hS (lv_sub hl [1, 2, 0] rfl)

set_option maxHeartbeats 8000000 in
set_option maxRecDepth 100000 in
theorem mX2_variables (l : Launch) (G : va_G) (tt : Nat → ClassId) (sz : Nat) (K : Nat) (ah : Nat) (ah_codes : Nat) (ah_codes_cells : Nat) (vh_codes_cells : Nat → Int32) (vh_size : Int32) (p1 : Int32) (RR : Int32) (hF : fX2_variables K vh_codes_cells vh_size p1 = some RR) : Met l yX2_variables wsX2_variables ({ frames := 1, cells := 0, slots := 0, locals := 21 } : Room) (zPre G (zTy tt) [.ref ah, .int p1] sz [(ah, .inr (1, [.ref ah_codes, .int vh_size])), (ah_codes, .inr (5, [.ref ah_codes_cells])), (ah_codes_cells, .inl (tt 0, 5, .inl vh_codes_cells))]) (va_Qi (fun (r : Int32) (_ : Unit) => r = RR) (zAt G (zTy tt) (va_A [(ah, .inr (1, [.ref ah_codes, .int vh_size])), (ah_codes, .inr (5, [.ref ah_codes_cells])), (ah_codes_cells, .inl (tt 0, 5, .inl vh_codes_cells))] sz) (fun _ : Unit => [(ah, .inr (1, [.ref ah_codes, .int vh_size])), (ah_codes, .inr (5, [.ref ah_codes_cells])), (ah_codes_cells, .inl (tt 0, 5, .inl vh_codes_cells))])) (va_A [(ah, .inr (1, [.ref ah_codes, .int vh_size])), (ah_codes, .inr (5, [.ref ah_codes_cells])), (ah_codes_cells, .inl (tt 0, 5, .inl vh_codes_cells))] sz)) 0 0 (va_A [(ah, .inr (1, [.ref ah_codes, .int vh_size])), (ah_codes, .inr (5, [.ref ah_codes_cells])), (ah_codes_cells, .inl (tt 0, 5, .inl vh_codes_cells))] sz) := by
  refine Met.ofW (cc := cX2_variables) (maxL := 5) (ret := (some .int)) (by decide +kernel) rfl ?_
  intro p e s m args below meth c s₁ B hml hv
  obtain ⟨rfl, hsz, hP, hK, hD0, hN⟩ := hv
  have hx := B.exec
  have hb := B.bytes
  have hr := B.returns
  have hts := atoms_spec (ws := wsX2_variables) B.pre
  have hown : s.vm.findClass RX2 = some m.cls := findClass_of_methodNamed B.named
  have hlocks := B.notSynchronized
  subst hsz
  have hD := hD0.self (sz := s.heap.size)
  generalize hAe : va_A [(ah, .inr (1, [.ref ah_codes, .int vh_size])), (ah_codes, .inr (5, [.ref ah_codes_cells])), (ah_codes_cells, .inl (tt 0, 5, .inl vh_codes_cells))] s.heap.size = A at hD ⊢
  have hA : ∀ q : Nat, s.heap.size ≤ q → A q := fun q h => by rw [← hAe]; exact Or.inr h
  have hP : va_P G vwCl [(ah, .inr (1, [.ref ah_codes, .int vh_size])), (ah_codes, .inr (5, [.ref ah_codes_cells])), (ah_codes_cells, .inl (tt 0, 5, .inl vh_codes_cells))] s.heap := hP
  have hiX2 : ∀ w ∈ wsX20, w ∈ wsX2_variables := by decide +kernel
  have hl := lv_entry ([.ref ah, .int p1]) (n := 5) (Nat.le_of_ble_eq_true rfl)
  rw [lg_entry_eq]
  generalize (lg_sl ([.ref ah, .int p1]) ++ List.replicate (5 - (lg_sl ([.ref ah, .int p1])).length) Slot.unset).toArray = ls at hl ⊢
  have hl : lv_has ls 5 [(0, .ref ah), (1, .int p1)] := hl
  have hb4 : ∀ (k4 : Nat) (x2 : Int32) (x3 : Int32) (H : Heap) (locs : List Loc) (ls : Array Slot), fX2_variables_4 K vh_codes_cells vh_size p1 k4 x2 x3 = some RR → va_P G vwCl [(ah, .inr (1, [.ref ah_codes, .int vh_size])), (ah_codes, .inr (5, [.ref ah_codes_cells])), (ah_codes_cells, .inl (tt 0, 5, .inl vh_codes_cells))] H → va_D A [(ah, .inr (1, [.ref ah_codes, .int vh_size])), (ah_codes, .inr (5, [.ref ah_codes_cells])), (ah_codes_cells, .inl (tt 0, 5, .inl vh_codes_cells))] → va_S A s.heap H locs → lv_has ls 5 [(0, .ref ah), (1, .int p1), (2, .int x2), (3, .int x3)] → W p l e (headSpec wsX2_variables ({ frames := 1, cells := 0, slots := 0, locals := 21 } : Room)).room s m ([.ref ah, .int p1] : List Value).toArray below meth c H locs 0 0 (MQ below (va_Qi (fun (r : Int32) (_ : Unit) => r = RR) (zAt G (zTy tt) A (fun _ : Unit => [(ah, .inr (1, [.ref ah_codes, .int vh_size])), (ah_codes, .inr (5, [.ref ah_codes_cells])), (ah_codes_cells, .inl (tt 0, 5, .inl vh_codes_cells))])) A) ([.ref ah, .int p1] : List Value).toArray s 0 0 A) (F0 m 4 ls []) := by
    intro k4
    induction k4 with
    | zero => intro x2 x3 H locs ls hF; rw [fX2_variables_4] at hF; cases hF
    | succ k4 ih4 =>
      have hb41 : ∀ (x3 : Int32) (t0 : Int32) (t1 : Int32) (H : Heap) (locs : List Loc) (ls : Array Slot), fX2_variables_41 K vh_codes_cells vh_size p1 (fX2_variables_4 K vh_codes_cells vh_size p1 k4) x3 t0 t1 = some RR → va_P G vwCl [(ah, .inr (1, [.ref ah_codes, .int vh_size])), (ah_codes, .inr (5, [.ref ah_codes_cells])), (ah_codes_cells, .inl (tt 0, 5, .inl vh_codes_cells))] H → va_D A [(ah, .inr (1, [.ref ah_codes, .int vh_size])), (ah_codes, .inr (5, [.ref ah_codes_cells])), (ah_codes_cells, .inl (tt 0, 5, .inl vh_codes_cells))] → va_S A s.heap H locs → lv_has ls 5 [(0, .ref ah), (1, .int p1), (3, .int x3)] → W p l e (headSpec wsX2_variables ({ frames := 1, cells := 0, slots := 0, locals := 21 } : Room)).room s m ([.ref ah, .int p1] : List Value).toArray below meth c H locs 0 0 (MQ below (va_Qi (fun (r : Int32) (_ : Unit) => r = RR) (zAt G (zTy tt) A (fun _ : Unit => [(ah, .inr (1, [.ref ah_codes, .int vh_size])), (ah_codes, .inr (5, [.ref ah_codes_cells])), (ah_codes_cells, .inl (tt 0, 5, .inl vh_codes_cells))])) A) ([.ref ah, .int p1] : List Value).toArray s 0 0 A) (F0 m 41 ls [.int t1, .int t0]) := by
        intro x3 t0 t1 H locs ls hF hP hD hS hl
        unfold fX2_variables_41 at hF
        refine lv_ior hx hb dX2_variables_41 ?_
        refine lv_istore_n (lv' := [(2, .int (t0 ||| t1)), (0, .ref ah), (1, .int p1), (3, .int x3)]) hx hb dX2_variables_42 rfl hl (by decide) rfl (fun ls hl => ?_)
        refine lv_iinc (v := (x3 + (1 : Int32))) (lv' := [(3, .int (x3 + (1 : Int32))), (2, .int (t0 ||| t1)), (0, .ref ah), (1, .int p1)]) hx hb dX2_variables_43 hl (k := 3) rfl rfl (by decide) rfl (fun ls hl => ?_)
        refine lv_goto (tgt := 4) hx hb dX2_variables_46 (by decide) ?_
        exact ih4 _ _ _ _ _ hF hP hD hS (lv_sub hl [2, 3, 1, 0] rfl)
      intro x2 x3 H locs ls hF hP hD hS hl
      rw [fX2_variables_4] at hF
      refine lv_iload_n hx hb dX2_variables_4 rfl (lv_at hl 3 rfl) ?_
      refine lv_aload_n hx hb dX2_variables_5 rfl (lv_at hl 0 rfl) ?_
      refine va_get (D := G) (ci := 1) (v := .int vh_size) (C := RX2) (T := TX2) (N := 2) hx hb hts hiX2 hown hK hP 0 rfl rfl 1 (by decide) (hts (.fieldLink RX2 24 "LeapTables$AtomList" "size" "I") (List.mem_of_getElem? (i := 1) rfl)) (fun _ h9 => h9) rfl dX2_variables_6 ?_
      refine lv_icmp_ge (tgt := 49) hx hb dX2_variables_9 (by decide) (fun c_9 => ?_) (fun c_9 => ?_)
      · have hF := z_t c_9 hF
        refine lv_iload_n hx hb dX2_variables_49 rfl (lv_at hl 2 rfl) ?_
        have hPD : zPD G A [(ah, .inr (1, [.ref ah_codes, .int vh_size])), (ah_codes, .inr (5, [.ref ah_codes_cells])), (ah_codes_cells, .inl (tt 0, 5, .inl vh_codes_cells))] H := ⟨hP.sub [0, 1, 2] rfl, hD.sub [0, 1, 2] (by decide +kernel) rfl⟩
        have hP9 := hPD.1
        have hD9 := hPD.2
        have hR := Option.some.inj hF
        exact W.iret (v := x2) hx hb hr (fun t ht hW => ⟨⟨x2, (), rfl, (by subst hR; rfl), by rw [ht]; exact hP9, va_K.moved hW.alike hK, hD9⟩, hS.F ht⟩) hS.2.2 dX2_variables_50
      · have hF := z_f c_9 hF
        refine lv_aload_n hx hb dX2_variables_12 rfl (lv_at hl 0 rfl) ?_
        refine va_get (D := G) (ci := 1) (v := .ref ah_codes) (C := RX2) (T := TX2) (N := 2) hx hb hts hiX2 hown hK hP 0 rfl rfl 0 (by decide) (hts (.fieldLink RX2 14 "LeapTables$AtomList" "codes" "LLeapTables$Ints;") (List.mem_of_getElem? (i := 2) rfl)) (fun _ h9 => h9) rfl dX2_variables_13 ?_
        refine lv_iload_n hx hb dX2_variables_16 rfl (lv_at hl 3 rfl) ?_
        obtain ⟨q17, hc_17, hF⟩ := z_bind hF
        refine z_backi (wr := [(ah, .inr (1, [.ref ah_codes, .int vh_size]))]) (z_goV (wc := [(ah_codes, .inr (5, [.ref ah_codes_cells])), (ah_codes_cells, .inl (tt 0, 5, .inl vh_codes_cells))]) (As := [.int x3]) (rest := []) (ci := 5) ⟨hx, hb, hml, hown, hts⟩ hK hN hP hD (mX6_at l G tt H.size 5 ah_codes ah_codes_cells vh_codes_cells x3 q17 hc_17) (cwV 1 hts gX2_variables_X6_at rfl rfl rfl (by decide +kernel) ⟨Nat.le_of_ble_eq_true rfl, Nat.le_of_ble_eq_true rfl⟩) [1, 2] rfl (by decide +kernel) rfl rfl rfl hl.1 rfl (Nat.le_of_ble_eq_true rfl) dX2_variables_17 ⟨Nat.zero_le _, Nat.zero_le _⟩) hP hD hS hA [1, 2] [0] rfl rfl (by decide +kernel) (by decide +kernel) (fun r u H locs hw hP hD hS => ?_)
        replace hw := hw.symm; subst hw
        refine lv_istore (lv' := [(4, .int q17), (0, .ref ah), (1, .int p1), (2, .int x2), (3, .int x3)]) hx hb dX2_variables_20 hl (by decide) rfl (fun ls hl => ?_)
        refine lv_iload_n hx hb dX2_variables_22 rfl (lv_at hl 3 rfl) ?_
        refine lv_iload hx hb dX2_variables_23 (lv_at hl 0 rfl) ?_
        obtain ⟨q25, hc_25, hF⟩ := z_bind hF
        refine z_backi (wr := [(ah, .inr (1, [.ref ah_codes, .int vh_size])), (ah_codes, .inr (5, [.ref ah_codes_cells])), (ah_codes_cells, .inl (tt 0, 5, .inl vh_codes_cells))]) (z_goS (wc := []) (As := [.int q17]) (rest := [.int x2]) ⟨hx, hb, hml, hown, hts⟩ hK hN hP hD (mX1_isNot l G tt H.size q17 q25 hc_25) (va_cwS 1 hts gX2_variables_X1_isNot rfl rfl rfl (by decide +kernel) ⟨Nat.le_of_ble_eq_true rfl, Nat.le_of_ble_eq_true rfl⟩) [] rfl (by decide +kernel) rfl hl.1 rfl (Nat.le_of_ble_eq_true rfl) dX2_variables_25 ⟨Nat.zero_le _, Nat.zero_le _⟩) hP hD hS hA [] [0, 1, 2] rfl rfl (by decide +kernel) (by decide +kernel) (fun r u H locs hw hP hD hS => ?_)
        replace hw := hw.symm; subst hw
        refine lv_iload_n hx hb dX2_variables_28 rfl (lv_at hl 2 rfl) ?_
        refine lv_icmp_ne (tgt := 40) hx hb dX2_variables_29 (by decide) (fun c_29 => ?_) (fun c_29 => ?_)
        · have hF := z_f c_29 hF
          refine lv_iconst (v := (0 : Int32)) hx hb dX2_variables_40 (by decide) ?_
          exact hb41 _ _ _ _ _ _ hF hP hD hS (lv_sub hl [1, 2, 4] rfl)
        · have hF := z_t c_29 hF
          refine lv_iload hx hb dX2_variables_32 (lv_at hl 0 rfl) ?_
          obtain ⟨q34, hc_34, hF⟩ := z_bind hF
          refine z_backi (wr := [(ah, .inr (1, [.ref ah_codes, .int vh_size])), (ah_codes, .inr (5, [.ref ah_codes_cells])), (ah_codes_cells, .inl (tt 0, 5, .inl vh_codes_cells))]) (z_goS (wc := []) (As := [.int q17]) (rest := [.int x2]) ⟨hx, hb, hml, hown, hts⟩ hK hN hP hD (mX1_variables l G tt H.size q17 q34 hc_34) (va_cwS 1 hts gX2_variables_X1_variables rfl rfl rfl (by decide +kernel) ⟨Nat.le_of_ble_eq_true rfl, Nat.le_of_ble_eq_true rfl⟩) [] rfl (by decide +kernel) rfl hl.1 rfl (Nat.le_of_ble_eq_true rfl) dX2_variables_34 ⟨Nat.zero_le _, Nat.zero_le _⟩) hP hD hS hA [] [0, 1, 2] rfl rfl (by decide +kernel) (by decide +kernel) (fun r u H locs hw hP hD hS => ?_)
          replace hw := hw.symm; subst hw
          refine lv_goto (tgt := 41) hx hb dX2_variables_37 (by decide) ?_
          exact hb41 _ _ _ _ _ _ hF hP hD hS (lv_sub hl [1, 2, 4] rfl)
  obtain ⟨H, hHe⟩ : ∃ H : Heap, s.heap = H := ⟨_, rfl⟩
  have hS : va_S A s.heap H [] := by rw [← hHe]; exact va_S.rf
  rw [hHe] at hP ⊢
  unfold fX2_variables at hF
  refine lv_iconst (v := (0 : Int32)) hx hb dX2_variables_0 (by decide) ?_
  refine lv_istore_n (lv' := [(2, .int (0 : Int32)), (0, .ref ah), (1, .int p1)]) hx hb dX2_variables_1 rfl hl (by decide) rfl (fun ls hl => ?_)
  refine lv_iconst (v := (0 : Int32)) hx hb dX2_variables_2 (by decide) ?_
  refine lv_istore_n (lv' := [(3, .int (0 : Int32)), (2, .int (0 : Int32)), (0, .ref ah), (1, .int p1)]) hx hb dX2_variables_3 rfl hl (by decide) rfl (fun ls hl => ?_)
  exact hb4 K _ _ _ _ _ hF hP hD hS (lv_sub hl [2, 3, 1, 0] rfl)

set_option maxHeartbeats 8000000 in
set_option maxRecDepth 100000 in
theorem mX2_standing (l : Launch) (G : va_G) (tt : Nat → ClassId) (sz : Nat) (K : Nat) (ah : Nat) (ah_codes : Nat) (ah_codes_cells : Nat) (vh_codes_cells : Nat → Int32) (vh_size : Int32) (p1 : Int32) (RR : Int32) (hF : fX2_standing K vh_codes_cells vh_size p1 = some RR) : Met l yX2_standing wsX2_standing ({ frames := 1, cells := 0, slots := 0, locals := 21 } : Room) (zPre G (zTy tt) [.ref ah, .int p1] sz [(ah, .inr (1, [.ref ah_codes, .int vh_size])), (ah_codes, .inr (5, [.ref ah_codes_cells])), (ah_codes_cells, .inl (tt 0, 5, .inl vh_codes_cells))]) (va_Qi (fun (r : Int32) (_ : Unit) => r = RR) (zAt G (zTy tt) (va_A [(ah, .inr (1, [.ref ah_codes, .int vh_size])), (ah_codes, .inr (5, [.ref ah_codes_cells])), (ah_codes_cells, .inl (tt 0, 5, .inl vh_codes_cells))] sz) (fun _ : Unit => [(ah, .inr (1, [.ref ah_codes, .int vh_size])), (ah_codes, .inr (5, [.ref ah_codes_cells])), (ah_codes_cells, .inl (tt 0, 5, .inl vh_codes_cells))])) (va_A [(ah, .inr (1, [.ref ah_codes, .int vh_size])), (ah_codes, .inr (5, [.ref ah_codes_cells])), (ah_codes_cells, .inl (tt 0, 5, .inl vh_codes_cells))] sz)) 0 0 (va_A [(ah, .inr (1, [.ref ah_codes, .int vh_size])), (ah_codes, .inr (5, [.ref ah_codes_cells])), (ah_codes_cells, .inl (tt 0, 5, .inl vh_codes_cells))] sz) := by
  refine Met.ofW (cc := cX2_standing) (maxL := 4) (ret := (some .int)) (by decide +kernel) rfl ?_
  intro p e s m args below meth c s₁ B hml hv
  obtain ⟨rfl, hsz, hP, hK, hD0, hN⟩ := hv
  have hx := B.exec
  have hb := B.bytes
  have hr := B.returns
  have hts := atoms_spec (ws := wsX2_standing) B.pre
  have hown : s.vm.findClass RX2 = some m.cls := findClass_of_methodNamed B.named
  have hlocks := B.notSynchronized
  subst hsz
  have hD := hD0.self (sz := s.heap.size)
  generalize hAe : va_A [(ah, .inr (1, [.ref ah_codes, .int vh_size])), (ah_codes, .inr (5, [.ref ah_codes_cells])), (ah_codes_cells, .inl (tt 0, 5, .inl vh_codes_cells))] s.heap.size = A at hD ⊢
  have hA : ∀ q : Nat, s.heap.size ≤ q → A q := fun q h => by rw [← hAe]; exact Or.inr h
  have hP : va_P G vwCl [(ah, .inr (1, [.ref ah_codes, .int vh_size])), (ah_codes, .inr (5, [.ref ah_codes_cells])), (ah_codes_cells, .inl (tt 0, 5, .inl vh_codes_cells))] s.heap := hP
  have hiX2 : ∀ w ∈ wsX20, w ∈ wsX2_standing := by decide +kernel
  have hl := lv_entry ([.ref ah, .int p1]) (n := 4) (Nat.le_of_ble_eq_true rfl)
  rw [lg_entry_eq]
  generalize (lg_sl ([.ref ah, .int p1]) ++ List.replicate (4 - (lg_sl ([.ref ah, .int p1])).length) Slot.unset).toArray = ls at hl ⊢
  have hl : lv_has ls 4 [(0, .ref ah), (1, .int p1)] := hl
  have hb4 : ∀ (k4 : Nat) (x2 : Int32) (x3 : Int32) (H : Heap) (locs : List Loc) (ls : Array Slot), fX2_standing_4 K vh_codes_cells vh_size p1 k4 x2 x3 = some RR → va_P G vwCl [(ah, .inr (1, [.ref ah_codes, .int vh_size])), (ah_codes, .inr (5, [.ref ah_codes_cells])), (ah_codes_cells, .inl (tt 0, 5, .inl vh_codes_cells))] H → va_D A [(ah, .inr (1, [.ref ah_codes, .int vh_size])), (ah_codes, .inr (5, [.ref ah_codes_cells])), (ah_codes_cells, .inl (tt 0, 5, .inl vh_codes_cells))] → va_S A s.heap H locs → lv_has ls 4 [(0, .ref ah), (1, .int p1), (2, .int x2), (3, .int x3)] → W p l e (headSpec wsX2_standing ({ frames := 1, cells := 0, slots := 0, locals := 21 } : Room)).room s m ([.ref ah, .int p1] : List Value).toArray below meth c H locs 0 0 (MQ below (va_Qi (fun (r : Int32) (_ : Unit) => r = RR) (zAt G (zTy tt) A (fun _ : Unit => [(ah, .inr (1, [.ref ah_codes, .int vh_size])), (ah_codes, .inr (5, [.ref ah_codes_cells])), (ah_codes_cells, .inl (tt 0, 5, .inl vh_codes_cells))])) A) ([.ref ah, .int p1] : List Value).toArray s 0 0 A) (F0 m 4 ls []) := by
    intro k4
    induction k4 with
    | zero => intro x2 x3 H locs ls hF; rw [fX2_standing_4] at hF; cases hF
    | succ k4 ih4 =>
      have hb33 : ∀ (x3 : Int32) (t0 : Int32) (t1 : Int32) (H : Heap) (locs : List Loc) (ls : Array Slot), fX2_standing_33 K vh_codes_cells vh_size p1 (fX2_standing_4 K vh_codes_cells vh_size p1 k4) x3 t0 t1 = some RR → va_P G vwCl [(ah, .inr (1, [.ref ah_codes, .int vh_size])), (ah_codes, .inr (5, [.ref ah_codes_cells])), (ah_codes_cells, .inl (tt 0, 5, .inl vh_codes_cells))] H → va_D A [(ah, .inr (1, [.ref ah_codes, .int vh_size])), (ah_codes, .inr (5, [.ref ah_codes_cells])), (ah_codes_cells, .inl (tt 0, 5, .inl vh_codes_cells))] → va_S A s.heap H locs → lv_has ls 4 [(0, .ref ah), (1, .int p1), (3, .int x3)] → W p l e (headSpec wsX2_standing ({ frames := 1, cells := 0, slots := 0, locals := 21 } : Room)).room s m ([.ref ah, .int p1] : List Value).toArray below meth c H locs 0 0 (MQ below (va_Qi (fun (r : Int32) (_ : Unit) => r = RR) (zAt G (zTy tt) A (fun _ : Unit => [(ah, .inr (1, [.ref ah_codes, .int vh_size])), (ah_codes, .inr (5, [.ref ah_codes_cells])), (ah_codes_cells, .inl (tt 0, 5, .inl vh_codes_cells))])) A) ([.ref ah, .int p1] : List Value).toArray s 0 0 A) (F0 m 33 ls [.int t1, .int t0]) := by
        intro x3 t0 t1 H locs ls hF hP hD hS hl
        unfold fX2_standing_33 at hF
        refine lv_iadd hx hb dX2_standing_33 ?_
        refine lv_istore_n (lv' := [(2, .int (t0 + t1)), (0, .ref ah), (1, .int p1), (3, .int x3)]) hx hb dX2_standing_34 rfl hl (by decide) rfl (fun ls hl => ?_)
        refine lv_iinc (v := (x3 + (1 : Int32))) (lv' := [(3, .int (x3 + (1 : Int32))), (2, .int (t0 + t1)), (0, .ref ah), (1, .int p1)]) hx hb dX2_standing_35 hl (k := 3) rfl rfl (by decide) rfl (fun ls hl => ?_)
        refine lv_goto (tgt := 4) hx hb dX2_standing_38 (by decide) ?_
        exact ih4 _ _ _ _ _ hF hP hD hS (lv_sub hl [2, 3, 1, 0] rfl)
      intro x2 x3 H locs ls hF hP hD hS hl
      rw [fX2_standing_4] at hF
      refine lv_iload_n hx hb dX2_standing_4 rfl (lv_at hl 3 rfl) ?_
      refine lv_aload_n hx hb dX2_standing_5 rfl (lv_at hl 0 rfl) ?_
      refine va_get (D := G) (ci := 1) (v := .int vh_size) (C := RX2) (T := TX2) (N := 2) hx hb hts hiX2 hown hK hP 0 rfl rfl 1 (by decide) (hts (.fieldLink RX2 24 "LeapTables$AtomList" "size" "I") (List.mem_of_getElem? (i := 1) rfl)) (fun _ h9 => h9) rfl dX2_standing_6 ?_
      refine lv_icmp_ge (tgt := 41) hx hb dX2_standing_9 (by decide) (fun c_9 => ?_) (fun c_9 => ?_)
      · have hF := z_t c_9 hF
        refine lv_iload_n hx hb dX2_standing_41 rfl (lv_at hl 2 rfl) ?_
        have hPD : zPD G A [(ah, .inr (1, [.ref ah_codes, .int vh_size])), (ah_codes, .inr (5, [.ref ah_codes_cells])), (ah_codes_cells, .inl (tt 0, 5, .inl vh_codes_cells))] H := ⟨hP.sub [0, 1, 2] rfl, hD.sub [0, 1, 2] (by decide +kernel) rfl⟩
        have hP9 := hPD.1
        have hD9 := hPD.2
        have hR := Option.some.inj hF
        exact W.iret (v := x2) hx hb hr (fun t ht hW => ⟨⟨x2, (), rfl, (by subst hR; rfl), by rw [ht]; exact hP9, va_K.moved hW.alike hK, hD9⟩, hS.F ht⟩) hS.2.2 dX2_standing_42
      · have hF := z_f c_9 hF
        refine lv_iload_n hx hb dX2_standing_12 rfl (lv_at hl 2 rfl) ?_
        refine lv_aload_n hx hb dX2_standing_13 rfl (lv_at hl 0 rfl) ?_
        refine va_get (D := G) (ci := 1) (v := .ref ah_codes) (C := RX2) (T := TX2) (N := 2) hx hb hts hiX2 hown hK hP 0 rfl rfl 0 (by decide) (hts (.fieldLink RX2 14 "LeapTables$AtomList" "codes" "LLeapTables$Ints;") (List.mem_of_getElem? (i := 2) rfl)) (fun _ h9 => h9) rfl dX2_standing_14 ?_
        refine lv_iload_n hx hb dX2_standing_17 rfl (lv_at hl 3 rfl) ?_
        obtain ⟨q18, hc_18, hF⟩ := z_bind hF
        refine z_backi (wr := [(ah, .inr (1, [.ref ah_codes, .int vh_size]))]) (z_goV (wc := [(ah_codes, .inr (5, [.ref ah_codes_cells])), (ah_codes_cells, .inl (tt 0, 5, .inl vh_codes_cells))]) (As := [.int x3]) (rest := [.int x2]) (ci := 5) ⟨hx, hb, hml, hown, hts⟩ hK hN hP hD (mX6_at l G tt H.size 5 ah_codes ah_codes_cells vh_codes_cells x3 q18 hc_18) (cwV 1 hts gX2_standing_X6_at rfl rfl rfl (by decide +kernel) ⟨Nat.le_of_ble_eq_true rfl, Nat.le_of_ble_eq_true rfl⟩) [1, 2] rfl (by decide +kernel) rfl rfl rfl hl.1 rfl (Nat.le_of_ble_eq_true rfl) dX2_standing_18 ⟨Nat.zero_le _, Nat.zero_le _⟩) hP hD hS hA [1, 2] [0] rfl rfl (by decide +kernel) (by decide +kernel) (fun r u H locs hw hP hD hS => ?_)
        replace hw := hw.symm; subst hw
        refine lv_iload_n hx hb dX2_standing_21 rfl (lv_at hl 1 rfl) ?_
        obtain ⟨q22, hc_22, hF⟩ := z_bind hF
        refine z_backi (wr := [(ah, .inr (1, [.ref ah_codes, .int vh_size])), (ah_codes, .inr (5, [.ref ah_codes_cells])), (ah_codes_cells, .inl (tt 0, 5, .inl vh_codes_cells))]) (z_goS (wc := []) (As := [.int q18, .int p1]) (rest := [.int x2]) ⟨hx, hb, hml, hown, hts⟩ hK hN hP hD (mX1_stands l G tt H.size q18 p1 q22 hc_22) (va_cwS 2 hts gX2_standing_X1_stands rfl rfl rfl (by decide +kernel) ⟨Nat.le_of_ble_eq_true rfl, Nat.le_of_ble_eq_true rfl⟩) [] rfl (by decide +kernel) rfl hl.1 rfl (Nat.le_of_ble_eq_true rfl) dX2_standing_22 ⟨Nat.zero_le _, Nat.zero_le _⟩) hP hD hS hA [] [0, 1, 2] rfl rfl (by decide +kernel) (by decide +kernel) (fun r u H locs hw hP hD hS => ?_)
        replace hw := hw.symm; subst hw
        refine lv_if_eq (tgt := 32) hx hb dX2_standing_25 (by decide) (fun c_25 => ?_) (fun c_25 => ?_)
        · have hF := z_t c_25 hF
          refine lv_iconst (v := (0 : Int32)) hx hb dX2_standing_32 (by decide) ?_
          exact hb33 _ _ _ _ _ _ hF hP hD hS (lv_sub hl [0, 1, 3] rfl)
        · have hF := z_f c_25 hF
          refine lv_iconst (v := (1 : Int32)) hx hb dX2_standing_28 (by decide) ?_
          refine lv_goto (tgt := 33) hx hb dX2_standing_29 (by decide) ?_
          exact hb33 _ _ _ _ _ _ hF hP hD hS (lv_sub hl [0, 1, 3] rfl)
  obtain ⟨H, hHe⟩ : ∃ H : Heap, s.heap = H := ⟨_, rfl⟩
  have hS : va_S A s.heap H [] := by rw [← hHe]; exact va_S.rf
  rw [hHe] at hP ⊢
  unfold fX2_standing at hF
  refine lv_iconst (v := (0 : Int32)) hx hb dX2_standing_0 (by decide) ?_
  refine lv_istore_n (lv' := [(2, .int (0 : Int32)), (0, .ref ah), (1, .int p1)]) hx hb dX2_standing_1 rfl hl (by decide) rfl (fun ls hl => ?_)
  refine lv_iconst (v := (0 : Int32)) hx hb dX2_standing_2 (by decide) ?_
  refine lv_istore_n (lv' := [(3, .int (0 : Int32)), (2, .int (0 : Int32)), (0, .ref ah), (1, .int p1)]) hx hb dX2_standing_3 rfl hl (by decide) rfl (fun ls hl => ?_)
  exact hb4 K _ _ _ _ _ hF hP hD hS (lv_sub hl [2, 3, 1, 0] rfl)

set_option maxHeartbeats 8000000 in
set_option maxRecDepth 100000 in
theorem mX2_nextWith (l : Launch) (G : va_G) (tt : Nat → ClassId) (sz : Nat) (K : Nat) (ah : Nat) (ah_codes : Nat) (ah_codes_cells : Nat) (vh_codes_cells : Nat → Int32) (vh_size : Int32) (p1 : Int32) (p2 : Int32) (RR : Int32) (hF : fX2_nextWith K vh_codes_cells vh_size p1 p2 = some RR) : Met l yX2_nextWith wsX2_nextWith ({ frames := 1, cells := 0, slots := 0, locals := 21 } : Room) (zPre G (zTy tt) [.ref ah, .int p1, .int p2] sz [(ah, .inr (1, [.ref ah_codes, .int vh_size])), (ah_codes, .inr (5, [.ref ah_codes_cells])), (ah_codes_cells, .inl (tt 0, 5, .inl vh_codes_cells))]) (va_Qi (fun (r : Int32) (_ : Unit) => r = RR) (zAt G (zTy tt) (va_A [(ah, .inr (1, [.ref ah_codes, .int vh_size])), (ah_codes, .inr (5, [.ref ah_codes_cells])), (ah_codes_cells, .inl (tt 0, 5, .inl vh_codes_cells))] sz) (fun _ : Unit => [(ah, .inr (1, [.ref ah_codes, .int vh_size])), (ah_codes, .inr (5, [.ref ah_codes_cells])), (ah_codes_cells, .inl (tt 0, 5, .inl vh_codes_cells))])) (va_A [(ah, .inr (1, [.ref ah_codes, .int vh_size])), (ah_codes, .inr (5, [.ref ah_codes_cells])), (ah_codes_cells, .inl (tt 0, 5, .inl vh_codes_cells))] sz)) 0 0 (va_A [(ah, .inr (1, [.ref ah_codes, .int vh_size])), (ah_codes, .inr (5, [.ref ah_codes_cells])), (ah_codes_cells, .inl (tt 0, 5, .inl vh_codes_cells))] sz) := by
  refine Met.ofW (cc := cX2_nextWith) (maxL := 5) (ret := (some .int)) (by decide +kernel) rfl ?_
  intro p e s m args below meth c s₁ B hml hv
  obtain ⟨rfl, hsz, hP, hK, hD0, hN⟩ := hv
  have hx := B.exec
  have hb := B.bytes
  have hr := B.returns
  have hts := atoms_spec (ws := wsX2_nextWith) B.pre
  have hown : s.vm.findClass RX2 = some m.cls := findClass_of_methodNamed B.named
  have hlocks := B.notSynchronized
  subst hsz
  have hD := hD0.self (sz := s.heap.size)
  generalize hAe : va_A [(ah, .inr (1, [.ref ah_codes, .int vh_size])), (ah_codes, .inr (5, [.ref ah_codes_cells])), (ah_codes_cells, .inl (tt 0, 5, .inl vh_codes_cells))] s.heap.size = A at hD ⊢
  have hA : ∀ q : Nat, s.heap.size ≤ q → A q := fun q h => by rw [← hAe]; exact Or.inr h
  have hP : va_P G vwCl [(ah, .inr (1, [.ref ah_codes, .int vh_size])), (ah_codes, .inr (5, [.ref ah_codes_cells])), (ah_codes_cells, .inl (tt 0, 5, .inl vh_codes_cells))] s.heap := hP
  have hiX2 : ∀ w ∈ wsX20, w ∈ wsX2_nextWith := by decide +kernel
  have hl := lv_entry ([.ref ah, .int p1, .int p2]) (n := 5) (Nat.le_of_ble_eq_true rfl)
  rw [lg_entry_eq]
  generalize (lg_sl ([.ref ah, .int p1, .int p2]) ++ List.replicate (5 - (lg_sl ([.ref ah, .int p1, .int p2])).length) Slot.unset).toArray = ls at hl ⊢
  have hl : lv_has ls 5 [(0, .ref ah), (1, .int p1), (2, .int p2)] := hl
  have hb5 : ∀ (k5 : Nat) (x3 : Int32) (x4 : Int32) (H : Heap) (locs : List Loc) (ls : Array Slot), fX2_nextWith_5 K vh_codes_cells vh_size p1 p2 k5 x3 x4 = some RR → va_P G vwCl [(ah, .inr (1, [.ref ah_codes, .int vh_size])), (ah_codes, .inr (5, [.ref ah_codes_cells])), (ah_codes_cells, .inl (tt 0, 5, .inl vh_codes_cells))] H → va_D A [(ah, .inr (1, [.ref ah_codes, .int vh_size])), (ah_codes, .inr (5, [.ref ah_codes_cells])), (ah_codes_cells, .inl (tt 0, 5, .inl vh_codes_cells))] → va_S A s.heap H locs → lv_has ls 5 [(0, .ref ah), (1, .int p1), (3, .int x3), (4, .int x4)] → W p l e (headSpec wsX2_nextWith ({ frames := 1, cells := 0, slots := 0, locals := 21 } : Room)).room s m ([.ref ah, .int p1, .int p2] : List Value).toArray below meth c H locs 0 0 (MQ below (va_Qi (fun (r : Int32) (_ : Unit) => r = RR) (zAt G (zTy tt) A (fun _ : Unit => [(ah, .inr (1, [.ref ah_codes, .int vh_size])), (ah_codes, .inr (5, [.ref ah_codes_cells])), (ah_codes_cells, .inl (tt 0, 5, .inl vh_codes_cells))])) A) ([.ref ah, .int p1, .int p2] : List Value).toArray s 0 0 A) (F0 m 5 ls []) := by
    intro k5
    induction k5 with
    | zero => intro x3 x4 H locs ls hF; rw [fX2_nextWith_5] at hF; cases hF
    | succ k5 ih5 =>
      have hb31 : ∀ (x4 : Int32) (t0 : Int32) (H : Heap) (locs : List Loc) (ls : Array Slot), fX2_nextWith_31 K vh_codes_cells vh_size p1 p2 (fX2_nextWith_5 K vh_codes_cells vh_size p1 p2 k5) x4 t0 = some RR → va_P G vwCl [(ah, .inr (1, [.ref ah_codes, .int vh_size])), (ah_codes, .inr (5, [.ref ah_codes_cells])), (ah_codes_cells, .inl (tt 0, 5, .inl vh_codes_cells))] H → va_D A [(ah, .inr (1, [.ref ah_codes, .int vh_size])), (ah_codes, .inr (5, [.ref ah_codes_cells])), (ah_codes_cells, .inl (tt 0, 5, .inl vh_codes_cells))] → va_S A s.heap H locs → lv_has ls 5 [(0, .ref ah), (1, .int p1), (4, .int x4)] → W p l e (headSpec wsX2_nextWith ({ frames := 1, cells := 0, slots := 0, locals := 21 } : Room)).room s m ([.ref ah, .int p1, .int p2] : List Value).toArray below meth c H locs 0 0 (MQ below (va_Qi (fun (r : Int32) (_ : Unit) => r = RR) (zAt G (zTy tt) A (fun _ : Unit => [(ah, .inr (1, [.ref ah_codes, .int vh_size])), (ah_codes, .inr (5, [.ref ah_codes_cells])), (ah_codes_cells, .inl (tt 0, 5, .inl vh_codes_cells))])) A) ([.ref ah, .int p1, .int p2] : List Value).toArray s 0 0 A) (F0 m 31 ls [.int t0]) := by
        intro x4 t0 H locs ls hF hP hD hS hl
        unfold fX2_nextWith_31 at hF
        refine lv_istore_n (lv' := [(3, .int t0), (0, .ref ah), (1, .int p1), (4, .int x4)]) hx hb dX2_nextWith_31 rfl hl (by decide) rfl (fun ls hl => ?_)
        refine lv_aload_n hx hb dX2_nextWith_32 rfl (lv_at hl 1 rfl) ?_
        refine va_get (D := G) (ci := 1) (v := .ref ah_codes) (C := RX2) (T := TX2) (N := 2) hx hb hts hiX2 hown hK hP 0 rfl rfl 0 (by decide) (hts (.fieldLink RX2 14 "LeapTables$AtomList" "codes" "LLeapTables$Ints;") (List.mem_of_getElem? (i := 2) rfl)) (fun _ h9 => h9) rfl dX2_nextWith_33 ?_
        refine lv_iload_n hx hb dX2_nextWith_36 rfl (lv_at hl 0 rfl) ?_
        obtain ⟨q37, hc_37, hF⟩ := z_bind hF
        refine z_backi (wr := [(ah, .inr (1, [.ref ah_codes, .int vh_size]))]) (z_goV (wc := [(ah_codes, .inr (5, [.ref ah_codes_cells])), (ah_codes_cells, .inl (tt 0, 5, .inl vh_codes_cells))]) (As := [.int t0]) (rest := []) (ci := 5) ⟨hx, hb, hml, hown, hts⟩ hK hN hP hD (mX6_at l G tt H.size 5 ah_codes ah_codes_cells vh_codes_cells t0 q37 hc_37) (cwV 1 hts gX2_nextWith_X6_at rfl rfl rfl (by decide +kernel) ⟨Nat.le_of_ble_eq_true rfl, Nat.le_of_ble_eq_true rfl⟩) [1, 2] rfl (by decide +kernel) rfl rfl rfl hl.1 rfl (Nat.le_of_ble_eq_true rfl) dX2_nextWith_37 ⟨Nat.zero_le _, Nat.zero_le _⟩) hP hD hS hA [1, 2] [0] rfl rfl (by decide +kernel) (by decide +kernel) (fun r u H locs hw hP hD hS => ?_)
        replace hw := hw.symm; subst hw
        refine lv_iload_n hx hb dX2_nextWith_40 rfl (lv_at hl 2 rfl) ?_
        obtain ⟨q41, hc_41, hF⟩ := z_bind hF
        refine z_backi (wr := [(ah, .inr (1, [.ref ah_codes, .int vh_size])), (ah_codes, .inr (5, [.ref ah_codes_cells])), (ah_codes_cells, .inl (tt 0, 5, .inl vh_codes_cells))]) (z_goS (wc := []) (As := [.int q37, .int p1]) (rest := []) ⟨hx, hb, hml, hown, hts⟩ hK hN hP hD (mX1_stands l G tt H.size q37 p1 q41 hc_41) (va_cwS 2 hts gX2_nextWith_X1_stands rfl rfl rfl (by decide +kernel) ⟨Nat.le_of_ble_eq_true rfl, Nat.le_of_ble_eq_true rfl⟩) [] rfl (by decide +kernel) rfl hl.1 rfl (Nat.le_of_ble_eq_true rfl) dX2_nextWith_41 ⟨Nat.zero_le _, Nat.zero_le _⟩) hP hD hS hA [] [0, 1, 2] rfl rfl (by decide +kernel) (by decide +kernel) (fun r u H locs hw hP hD hS => ?_)
        replace hw := hw.symm; subst hw
        refine lv_if_eq (tgt := 49) hx hb dX2_nextWith_44 (by decide) (fun c_44 => ?_) (fun c_44 => ?_)
        · have hF := z_t c_44 hF
          refine lv_iinc (v := (x4 + (1 : Int32))) (lv' := [(4, .int (x4 + (1 : Int32))), (3, .int t0), (0, .ref ah), (1, .int p1)]) hx hb dX2_nextWith_49 hl (k := 3) rfl rfl (by decide) rfl (fun ls hl => ?_)
          refine lv_goto (tgt := 5) hx hb dX2_nextWith_52 (by decide) ?_
          exact ih5 _ _ _ _ _ hF hP hD hS (lv_sub hl [2, 3, 1, 0] rfl)
        · have hF := z_f c_44 hF
          refine lv_iload_n hx hb dX2_nextWith_47 rfl (lv_at hl 0 rfl) ?_
          have hPD : zPD G A [(ah, .inr (1, [.ref ah_codes, .int vh_size])), (ah_codes, .inr (5, [.ref ah_codes_cells])), (ah_codes_cells, .inl (tt 0, 5, .inl vh_codes_cells))] H := ⟨hP.sub [0, 1, 2] rfl, hD.sub [0, 1, 2] (by decide +kernel) rfl⟩
          have hP9 := hPD.1
          have hD9 := hPD.2
          have hR := Option.some.inj hF
          exact W.iret (v := t0) hx hb hr (fun t ht hW => ⟨⟨t0, (), rfl, (by subst hR; rfl), by rw [ht]; exact hP9, va_K.moved hW.alike hK, hD9⟩, hS.F ht⟩) hS.2.2 dX2_nextWith_48
      intro x3 x4 H locs ls hF hP hD hS hl
      rw [fX2_nextWith_5] at hF
      refine lv_iload hx hb dX2_nextWith_5 (lv_at hl 3 rfl) ?_
      refine lv_aload_n hx hb dX2_nextWith_7 rfl (lv_at hl 0 rfl) ?_
      refine va_get (D := G) (ci := 1) (v := .int vh_size) (C := RX2) (T := TX2) (N := 2) hx hb hts hiX2 hown hK hP 0 rfl rfl 1 (by decide) (hts (.fieldLink RX2 24 "LeapTables$AtomList" "size" "I") (List.mem_of_getElem? (i := 1) rfl)) (fun _ h9 => h9) rfl dX2_nextWith_8 ?_
      refine lv_icmp_ge (tgt := 55) hx hb dX2_nextWith_11 (by decide) (fun c_11 => ?_) (fun c_11 => ?_)
      · have hF := z_t c_11 hF
        refine lv_iload_n hx hb dX2_nextWith_55 rfl (lv_at hl 2 rfl) ?_
        have hPD : zPD G A [(ah, .inr (1, [.ref ah_codes, .int vh_size])), (ah_codes, .inr (5, [.ref ah_codes_cells])), (ah_codes_cells, .inl (tt 0, 5, .inl vh_codes_cells))] H := ⟨hP.sub [0, 1, 2] rfl, hD.sub [0, 1, 2] (by decide +kernel) rfl⟩
        have hP9 := hPD.1
        have hD9 := hPD.2
        have hR := Option.some.inj hF
        exact W.iret (v := x3) hx hb hr (fun t ht hW => ⟨⟨x3, (), rfl, (by subst hR; rfl), by rw [ht]; exact hP9, va_K.moved hW.alike hK, hD9⟩, hS.F ht⟩) hS.2.2 dX2_nextWith_56
      · have hF := z_f c_11 hF
        refine lv_iload_n hx hb dX2_nextWith_14 rfl (lv_at hl 2 rfl) ?_
        refine lv_iconst (v := (1 : Int32)) hx hb dX2_nextWith_15 (by decide) ?_
        refine lv_iadd hx hb dX2_nextWith_16 ?_
        refine lv_aload_n hx hb dX2_nextWith_17 rfl (lv_at hl 0 rfl) ?_
        refine va_get (D := G) (ci := 1) (v := .int vh_size) (C := RX2) (T := TX2) (N := 2) hx hb hts hiX2 hown hK hP 0 rfl rfl 1 (by decide) (hts (.fieldLink RX2 24 "LeapTables$AtomList" "size" "I") (List.mem_of_getElem? (i := 1) rfl)) (fun _ h9 => h9) rfl dX2_nextWith_18 ?_
        refine lv_icmp_lt (tgt := 28) hx hb dX2_nextWith_21 (by decide) (fun c_21 => ?_) (fun c_21 => ?_)
        · have hF := z_t c_21 hF
          refine lv_iload_n hx hb dX2_nextWith_28 rfl (lv_at hl 2 rfl) ?_
          refine lv_iconst (v := (1 : Int32)) hx hb dX2_nextWith_29 (by decide) ?_
          refine lv_iadd hx hb dX2_nextWith_30 ?_
          exact hb31 _ _ _ _ _ hF hP hD hS (lv_sub hl [0, 1, 3] rfl)
        · have hF := z_f c_21 hF
          refine lv_iconst (v := (0 : Int32)) hx hb dX2_nextWith_24 (by decide) ?_
          refine lv_goto (tgt := 31) hx hb dX2_nextWith_25 (by decide) ?_
          exact hb31 _ _ _ _ _ hF hP hD hS (lv_sub hl [0, 1, 3] rfl)
  obtain ⟨H, hHe⟩ : ∃ H : Heap, s.heap = H := ⟨_, rfl⟩
  have hS : va_S A s.heap H [] := by rw [← hHe]; exact va_S.rf
  rw [hHe] at hP ⊢
  unfold fX2_nextWith at hF
  refine lv_iload_n hx hb dX2_nextWith_0 rfl (lv_at hl 2 rfl) ?_
  refine lv_istore_n (lv' := [(3, .int p2), (0, .ref ah), (1, .int p1), (2, .int p2)]) hx hb dX2_nextWith_1 rfl hl (by decide) rfl (fun ls hl => ?_)
  refine lv_iconst (v := (0 : Int32)) hx hb dX2_nextWith_2 (by decide) ?_
  refine lv_istore (lv' := [(4, .int (0 : Int32)), (3, .int p2), (0, .ref ah), (1, .int p1), (2, .int p2)]) hx hb dX2_nextWith_3 hl (by decide) rfl (fun ls hl => ?_)
  exact hb5 K _ _ _ _ _ hF hP hD hS (lv_sub hl [2, 3, 1, 0] rfl)

set_option maxHeartbeats 8000000 in
set_option maxRecDepth 100000 in
theorem mX2_copyFrom (l : Launch) (G : va_G) (tt : Nat → ClassId) (sz : Nat) (K : Nat) (ah : Nat) (ah_codes : Nat) (ah_codes_cells : Nat) (vh_codes_cells : Nat → Int32) (vh_size : Int32) (ag1 : Nat) (ag1_codes : Nat) (ag1_codes_cells : Nat) (vg1_codes_cells : Nat → Int32) (vg1_size : Int32) (RR : (Nat → Int32) × Int32) (hF : fX2_copyFrom K vg1_codes_cells vg1_size vh_codes_cells vh_size = some RR) : Met l yX2_copyFrom wsX2_copyFrom ({ frames := 1, cells := 0, slots := 0, locals := 22 } : Room) (zPre G (zTy tt) [.ref ah, .ref ag1] sz [(ah, .inr (1, [.ref ah_codes, .int vh_size])), (ah_codes, .inr (5, [.ref ah_codes_cells])), (ah_codes_cells, .inl (tt 0, 5, .inl vh_codes_cells)), (ag1, .inr (1, [.ref ag1_codes, .int vg1_size])), (ag1_codes, .inr (5, [.ref ag1_codes_cells])), (ag1_codes_cells, .inl (tt 0, 5, .inl vg1_codes_cells))]) (va_Qv (fun u : (Nat → Int32) × Int32 => u = RR) (zAt G (zTy tt) (va_A [(ah, .inr (1, [.ref ah_codes, .int vh_size])), (ah_codes, .inr (5, [.ref ah_codes_cells])), (ah_codes_cells, .inl (tt 0, 5, .inl vh_codes_cells)), (ag1, .inr (1, [.ref ag1_codes, .int vg1_size])), (ag1_codes, .inr (5, [.ref ag1_codes_cells])), (ag1_codes_cells, .inl (tt 0, 5, .inl vg1_codes_cells))] sz) (fun u : (Nat → Int32) × Int32 => [(ah, .inr (1, [.ref ah_codes, .int u.2])), (ah_codes, .inr (5, [.ref ah_codes_cells])), (ah_codes_cells, .inl (tt 0, 5, .inl u.1)), (ag1, .inr (1, [.ref ag1_codes, .int vg1_size])), (ag1_codes, .inr (5, [.ref ag1_codes_cells])), (ag1_codes_cells, .inl (tt 0, 5, .inl vg1_codes_cells))])) (va_A [(ah, .inr (1, [.ref ah_codes, .int vh_size])), (ah_codes, .inr (5, [.ref ah_codes_cells])), (ah_codes_cells, .inl (tt 0, 5, .inl vh_codes_cells)), (ag1, .inr (1, [.ref ag1_codes, .int vg1_size])), (ag1_codes, .inr (5, [.ref ag1_codes_cells])), (ag1_codes_cells, .inl (tt 0, 5, .inl vg1_codes_cells))] sz)) 0 0 (va_A [(ah, .inr (1, [.ref ah_codes, .int vh_size])), (ah_codes, .inr (5, [.ref ah_codes_cells])), (ah_codes_cells, .inl (tt 0, 5, .inl vh_codes_cells)), (ag1, .inr (1, [.ref ag1_codes, .int vg1_size])), (ag1_codes, .inr (5, [.ref ag1_codes_cells])), (ag1_codes_cells, .inl (tt 0, 5, .inl vg1_codes_cells))] sz) := by
  refine Met.ofW (cc := cX2_copyFrom) (maxL := 2) (ret := none) (by decide +kernel) rfl ?_
  intro p e s m args below meth c s₁ B hml hv
  obtain ⟨rfl, hsz, hP, hK, hD0, hN⟩ := hv
  have hx := B.exec
  have hb := B.bytes
  have hr := B.returns
  have hts := atoms_spec (ws := wsX2_copyFrom) B.pre
  have hown : s.vm.findClass RX2 = some m.cls := findClass_of_methodNamed B.named
  have hlocks := B.notSynchronized
  subst hsz
  have hD := hD0.self (sz := s.heap.size)
  generalize hAe : va_A [(ah, .inr (1, [.ref ah_codes, .int vh_size])), (ah_codes, .inr (5, [.ref ah_codes_cells])), (ah_codes_cells, .inl (tt 0, 5, .inl vh_codes_cells)), (ag1, .inr (1, [.ref ag1_codes, .int vg1_size])), (ag1_codes, .inr (5, [.ref ag1_codes_cells])), (ag1_codes_cells, .inl (tt 0, 5, .inl vg1_codes_cells))] s.heap.size = A at hD ⊢
  have hA : ∀ q : Nat, s.heap.size ≤ q → A q := fun q h => by rw [← hAe]; exact Or.inr h
  have hP : va_P G vwCl [(ah, .inr (1, [.ref ah_codes, .int vh_size])), (ah_codes, .inr (5, [.ref ah_codes_cells])), (ah_codes_cells, .inl (tt 0, 5, .inl vh_codes_cells)), (ag1, .inr (1, [.ref ag1_codes, .int vg1_size])), (ag1_codes, .inr (5, [.ref ag1_codes_cells])), (ag1_codes_cells, .inl (tt 0, 5, .inl vg1_codes_cells))] s.heap := hP
  have hiX2 : ∀ w ∈ wsX20, w ∈ wsX2_copyFrom := by decide +kernel
  have hl := lv_entry ([.ref ah, .ref ag1]) (n := 2) (Nat.le_of_ble_eq_true rfl)
  rw [lg_entry_eq]
  generalize (lg_sl ([.ref ah, .ref ag1]) ++ List.replicate (2 - (lg_sl ([.ref ah, .ref ag1])).length) Slot.unset).toArray = ls at hl ⊢
  have hl : lv_has ls 2 [(0, .ref ah), (1, .ref ag1)] := hl
  obtain ⟨H, hHe⟩ : ∃ H : Heap, s.heap = H := ⟨_, rfl⟩
  have hS : va_S A s.heap H [] := by rw [← hHe]; exact va_S.rf
  rw [hHe] at hP ⊢
  unfold fX2_copyFrom at hF
  refine lv_aload_n hx hb dX2_copyFrom_0 rfl (lv_at hl 0 rfl) ?_
  refine va_get (D := G) (ci := 1) (v := .ref ah_codes) (C := RX2) (T := TX2) (N := 2) hx hb hts hiX2 hown hK hP 0 rfl rfl 0 (by decide) (hts (.fieldLink RX2 14 "LeapTables$AtomList" "codes" "LLeapTables$Ints;") (List.mem_of_getElem? (i := 1) rfl)) (fun _ h9 => h9) rfl dX2_copyFrom_1 ?_
  refine lv_aload_n hx hb dX2_copyFrom_4 rfl (lv_at hl 1 rfl) ?_
  refine va_get (D := G) (ci := 1) (v := .ref ag1_codes) (C := RX2) (T := TX2) (N := 2) hx hb hts hiX2 hown hK hP 3 rfl rfl 0 (by decide) (hts (.fieldLink RX2 14 "LeapTables$AtomList" "codes" "LLeapTables$Ints;") (List.mem_of_getElem? (i := 1) rfl)) (fun _ h9 => h9) rfl dX2_copyFrom_5 ?_
  obtain ⟨q8, hc_8, hF⟩ := z_bind hF
  refine z_backv (wr := [(ah, .inr (1, [.ref ah_codes, .int vh_size])), (ag1, .inr (1, [.ref ag1_codes, .int vg1_size]))]) (z_goV (wc := [(ah_codes, .inr (5, [.ref ah_codes_cells])), (ah_codes_cells, .inl (tt 0, 5, .inl vh_codes_cells)), (ag1_codes, .inr (5, [.ref ag1_codes_cells])), (ag1_codes_cells, .inl (tt 0, 5, .inl vg1_codes_cells))]) (As := [.ref ag1_codes]) (rest := []) (ci := 5) ⟨hx, hb, hml, hown, hts⟩ hK hN hP hD (mX6_copyFrom l G tt H.size K 5 5 ah_codes ah_codes_cells vh_codes_cells ag1_codes ag1_codes_cells vg1_codes_cells q8 hc_8) (cwV 1 hts gX2_copyFrom_X6_copyFrom rfl rfl rfl (by decide +kernel) ⟨Nat.le_of_ble_eq_true rfl, Nat.le_of_ble_eq_true rfl⟩) [1, 2, 4, 5] rfl (by decide +kernel) rfl rfl rfl hl.1 rfl (Nat.le_of_ble_eq_true rfl) dX2_copyFrom_8 ⟨Nat.zero_le _, Nat.zero_le _⟩) hP hD hS hA [1, 2, 4, 5] [0, 3] rfl rfl (by decide +kernel) (by decide +kernel) (fun u H locs hw hP hD hS => ?_)
  replace hw := hw.symm; subst hw
  refine lv_aload_n hx hb dX2_copyFrom_11 rfl (lv_at hl 0 rfl) ?_
  refine lv_aload_n hx hb dX2_copyFrom_12 rfl (lv_at hl 1 rfl) ?_
  refine va_get (D := G) (ci := 1) (v := .int vg1_size) (C := RX2) (T := TX2) (N := 2) hx hb hts hiX2 hown hK hP 1 rfl rfl 1 (by decide) (hts (.fieldLink RX2 24 "LeapTables$AtomList" "size" "I") (List.mem_of_getElem? (i := 2) rfl)) (fun _ h9 => h9) rfl dX2_copyFrom_13 ?_
  refine va_put (D := G) (ci := 1) (v := .int vg1_size) (ty := .int) (C := RX2) (T := TX2) (N := 2) hx hb hts hiX2 tyX2 tyX2_ok nmX2 hown hK hP hD hS 0 rfl rfl 1 (by decide) (hts (.fieldLink RX2 24 "LeapTables$AtomList" "size" "I") (List.mem_of_getElem? (i := 2) rfl)) (fun _ h9 => h9) rfl (by decide +kernel) rfl rfl (Nat.le_of_ble_eq_true rfl) dX2_copyFrom_16 (fun H locs hP hD hS => ?_)
  have hPD : zPD G A [(ah, .inr (1, [.ref ah_codes, .int vg1_size])), (ah_codes, .inr (5, [.ref ah_codes_cells])), (ah_codes_cells, .inl (tt 0, 5, .inl q8)), (ag1, .inr (1, [.ref ag1_codes, .int vg1_size])), (ag1_codes, .inr (5, [.ref ag1_codes_cells])), (ag1_codes_cells, .inl (tt 0, 5, .inl vg1_codes_cells))] H := ⟨hP.sub [0, 2, 3, 1, 4, 5] rfl, hD.sub [0, 2, 3, 1, 4, 5] (by decide +kernel) rfl⟩
  have hP9 := hPD.1
  have hD9 := hPD.2
  have hR := Option.some.inj hF
  exact W.vret hx hb hr (fun t ht hW => ⟨⟨(q8, vg1_size), rfl, (by subst hR; rfl), by rw [ht]; exact hP9, va_K.moved hW.alike hK, hD9⟩, hS.F ht⟩) hS.2.2 dX2_copyFrom_19

set_option maxHeartbeats 8000000 in
set_option maxRecDepth 100000 in
theorem mX7_has (l : Launch) (G : va_G) (tt : Nat → ClassId) (sz : Nat) (ah : Nat) (ah_words : Nat) (vh_words : Nat → Int64) (p1 : Int32) (p2 : Int32) (RR : Bool) (hF : fX7_has vh_words p1 p2 = some RR) : Met l yX7_has wsX7_has ({ frames := 0, cells := 0, slots := 0, locals := 0 } : Room) (zPre G (zTy tt) [.ref ah, .int p1, .int p2] sz [(ah, .inr (6, [.ref ah_words])), (ah_words, .inl (tt 1, 40, .inr (.inl vh_words)))]) (va_Qi (fun (r : Int32) (_ : Unit) => r = bI RR) (zAt G (zTy tt) (va_A [(ah, .inr (6, [.ref ah_words])), (ah_words, .inl (tt 1, 40, .inr (.inl vh_words)))] sz) (fun _ : Unit => [(ah, .inr (6, [.ref ah_words])), (ah_words, .inl (tt 1, 40, .inr (.inl vh_words)))])) (va_A [(ah, .inr (6, [.ref ah_words])), (ah_words, .inl (tt 1, 40, .inr (.inl vh_words)))] sz)) 0 0 (va_A [(ah, .inr (6, [.ref ah_words])), (ah_words, .inl (tt 1, 40, .inr (.inl vh_words)))] sz) := by
  refine Met.ofW (cc := cX7_has) (maxL := 4) (ret := (some .boolean)) (by decide +kernel) rfl ?_
  intro p e s m args below meth c s₁ B hml hv
  obtain ⟨rfl, hsz, hP, hK, hD0, hN⟩ := hv
  have hx := B.exec
  have hb := B.bytes
  have hr := B.returns
  have hts := atoms_spec (ws := wsX7_has) B.pre
  have hown : s.vm.findClass RX7 = some m.cls := findClass_of_methodNamed B.named
  have hlocks := B.notSynchronized
  subst hsz
  have hD := hD0.self (sz := s.heap.size)
  generalize hAe : va_A [(ah, .inr (6, [.ref ah_words])), (ah_words, .inl (tt 1, 40, .inr (.inl vh_words)))] s.heap.size = A at hD ⊢
  have hA : ∀ q : Nat, s.heap.size ≤ q → A q := fun q h => by rw [← hAe]; exact Or.inr h
  have hP : va_P G vwCl [(ah, .inr (6, [.ref ah_words])), (ah_words, .inl (tt 1, 40, .inr (.inl vh_words)))] s.heap := hP
  have hiX7 : ∀ w ∈ wsX70, w ∈ wsX7_has := by decide +kernel
  have hl := lv_entry ([.ref ah, .int p1, .int p2]) (n := 4) (Nat.le_of_ble_eq_true rfl)
  rw [lg_entry_eq]
  generalize (lg_sl ([.ref ah, .int p1, .int p2]) ++ List.replicate (4 - (lg_sl ([.ref ah, .int p1, .int p2])).length) Slot.unset).toArray = ls at hl ⊢
  have hl : lv_has ls 4 [(0, .ref ah), (1, .int p1), (2, .int p2)] := hl
  obtain ⟨H, hHe⟩ : ∃ H : Heap, s.heap = H := ⟨_, rfl⟩
  have hS : va_S A s.heap H [] := by rw [← hHe]; exact va_S.rf
  rw [hHe] at hP ⊢
  unfold fX7_has at hF
  refine lv_iload_n hx hb dX7_has_0 rfl (lv_at hl 1 rfl) ?_
  refine lv_bipush (v := (8 : Int32)) hx hb dX7_has_1 (by decide) ?_
  refine lv_imul hx hb dX7_has_3 ?_
  refine lv_iload_n hx hb dX7_has_4 rfl (lv_at hl 2 rfl) ?_
  refine lv_bipush (v := (6 : Int32)) hx hb dX7_has_5 (by decide) ?_
  refine lv_ishr hx hb dX7_has_7 ?_
  refine lv_iadd hx hb dX7_has_8 ?_
  refine lv_istore_n (lv' := [(3, .int ((p1 * (8 : Int32)) + (p2 >>> ((6 : Int32) &&& 31)))), (0, .ref ah), (1, .int p1), (2, .int p2)]) hx hb dX7_has_9 rfl hl (by decide) rfl (fun ls hl => ?_)
  refine lv_iload_n hx hb dX7_has_10 rfl (lv_at hl 0 rfl) ?_
  refine lv_if_lt (tgt := 45) hx hb dX7_has_11 (by decide) (fun c_11 => ?_) (fun c_11 => ?_)
  · have hF := z_t c_11 hF
    refine lv_iconst (v := (0 : Int32)) hx hb dX7_has_45 (by decide) ?_
    have hPD : zPD G A [(ah, .inr (6, [.ref ah_words])), (ah_words, .inl (tt 1, 40, .inr (.inl vh_words)))] H := ⟨hP.sub [0, 1] rfl, hD.sub [0, 1] (by decide +kernel) rfl⟩
    have hP9 := hPD.1
    have hD9 := hPD.2
    have hR := Option.some.inj hF
    exact W.zret (v := (0 : Int32)) hx hb hr rfl (fun t ht hW => ⟨⟨(0 : Int32), (), rfl, (by subst hR; rfl), by rw [ht]; exact hP9, va_K.moved hW.alike hK, hD9⟩, hS.F ht⟩) hS.2.2 dX7_has_46
  · have hF := z_f c_11 hF
    refine lv_iload_n hx hb dX7_has_14 rfl (lv_at hl 0 rfl) ?_
    refine lv_aload_n hx hb dX7_has_15 rfl (lv_at hl 1 rfl) ?_
    refine va_get (D := G) (ci := 6) (v := .ref ah_words) (C := RX7) (T := TX7) (N := 1) hx hb hts hiX7 hown hK hP 0 rfl rfl 0 (by decide) (hts (.fieldLink RX7 9 "LeapTables$Rows" "words" "[J") (List.mem_of_getElem? (i := 1) rfl)) (fun _ h9 => h9) rfl dX7_has_16 ?_
    refine va_alen (v := (40 : Int32)) hx hb hK hP 1 1 rfl rfl (by first | rfl | decide) dX7_has_19 ?_
    refine lv_icmp_ge (tgt := 45) hx hb dX7_has_20 (by decide) (fun c_20 => ?_) (fun c_20 => ?_)
    · have hF := z_t c_20 hF
      refine lv_iconst (v := (0 : Int32)) hx hb dX7_has_45 (by decide) ?_
      have hPD : zPD G A [(ah, .inr (6, [.ref ah_words])), (ah_words, .inl (tt 1, 40, .inr (.inl vh_words)))] H := ⟨hP.sub [0, 1] rfl, hD.sub [0, 1] (by decide +kernel) rfl⟩
      have hP9 := hPD.1
      have hD9 := hPD.2
      have hR := Option.some.inj hF
      exact W.zret (v := (0 : Int32)) hx hb hr rfl (fun t ht hW => ⟨⟨(0 : Int32), (), rfl, (by subst hR; rfl), by rw [ht]; exact hP9, va_K.moved hW.alike hK, hD9⟩, hS.F ht⟩) hS.2.2 dX7_has_46
    · have hF := z_f c_20 hF
      refine lv_aload_n hx hb dX7_has_23 rfl (lv_at hl 1 rfl) ?_
      refine va_get (D := G) (ci := 6) (v := .ref ah_words) (C := RX7) (T := TX7) (N := 1) hx hb hts hiX7 hown hK hP 0 rfl rfl 0 (by decide) (hts (.fieldLink RX7 9 "LeapTables$Rows" "words" "[J") (List.mem_of_getElem? (i := 1) rfl)) (fun _ h9 => h9) rfl dX7_has_24 ?_
      refine lv_iload_n hx hb dX7_has_27 rfl (lv_at hl 0 rfl) ?_
      obtain ⟨h_28, hF⟩ := z_in hF
      refine va_lald hx hb hK hP 1 1 rfl rfl h_28 dX7_has_28 ?_
      refine lv_iload_n hx hb dX7_has_29 rfl (lv_at hl 3 rfl) ?_
      refine lv_bipush (v := (63 : Int32)) hx hb dX7_has_30 (by decide) ?_
      refine lv_iand hx hb dX7_has_32 ?_
      refine lv_lshr hx hb dX7_has_33 rfl ?_
      refine lv_lconst (v := (1 : Int64)) hx hb dX7_has_34 (by decide) ?_
      refine lv_land hx hb dX7_has_35 ?_
      refine lv_lconst (v := (0 : Int64)) hx hb dX7_has_36 (by decide) ?_
      refine W.lcmp hx hb dX7_has_37 ?_
      refine lv_if_eq (tgt := 45) hx hb dX7_has_38 (by decide) (fun c_38 => ?_) (fun c_38 => ?_)
      · have hF := z_t c_38 hF
        refine lv_iconst (v := (0 : Int32)) hx hb dX7_has_45 (by decide) ?_
        have hPD : zPD G A [(ah, .inr (6, [.ref ah_words])), (ah_words, .inl (tt 1, 40, .inr (.inl vh_words)))] H := ⟨hP.sub [0, 1] rfl, hD.sub [0, 1] (by decide +kernel) rfl⟩
        have hP9 := hPD.1
        have hD9 := hPD.2
        have hR := Option.some.inj hF
        exact W.zret (v := (0 : Int32)) hx hb hr rfl (fun t ht hW => ⟨⟨(0 : Int32), (), rfl, (by subst hR; rfl), by rw [ht]; exact hP9, va_K.moved hW.alike hK, hD9⟩, hS.F ht⟩) hS.2.2 dX7_has_46
      · have hF := z_f c_38 hF
        refine lv_iconst (v := (1 : Int32)) hx hb dX7_has_41 (by decide) ?_
        refine lv_goto (tgt := 46) hx hb dX7_has_42 (by decide) ?_
        have hPD : zPD G A [(ah, .inr (6, [.ref ah_words])), (ah_words, .inl (tt 1, 40, .inr (.inl vh_words)))] H := ⟨hP.sub [0, 1] rfl, hD.sub [0, 1] (by decide +kernel) rfl⟩
        have hP9 := hPD.1
        have hD9 := hPD.2
        have hR := Option.some.inj hF
        exact W.zret (v := (1 : Int32)) hx hb hr rfl (fun t ht hW => ⟨⟨(1 : Int32), (), rfl, (by subst hR; rfl), by rw [ht]; exact hP9, va_K.moved hW.alike hK, hD9⟩, hS.F ht⟩) hS.2.2 dX7_has_46

set_option maxHeartbeats 8000000 in
set_option maxRecDepth 100000 in
theorem mX7_add (l : Launch) (G : va_G) (tt : Nat → ClassId) (sz : Nat) (ah : Nat) (ah_words : Nat) (vh_words : Nat → Int64) (p1 : Int32) (p2 : Int32) (RR : (Nat → Int64)) (hF : fX7_add p1 p2 vh_words = some RR) : Met l yX7_add wsX7_add ({ frames := 0, cells := 0, slots := 0, locals := 0 } : Room) (zPre G (zTy tt) [.ref ah, .int p1, .int p2] sz [(ah, .inr (6, [.ref ah_words])), (ah_words, .inl (tt 1, 40, .inr (.inl vh_words)))]) (va_Qv (fun u : (Nat → Int64) => u = RR) (zAt G (zTy tt) (va_A [(ah, .inr (6, [.ref ah_words])), (ah_words, .inl (tt 1, 40, .inr (.inl vh_words)))] sz) (fun u : (Nat → Int64) => [(ah, .inr (6, [.ref ah_words])), (ah_words, .inl (tt 1, 40, .inr (.inl u)))])) (va_A [(ah, .inr (6, [.ref ah_words])), (ah_words, .inl (tt 1, 40, .inr (.inl vh_words)))] sz)) 0 0 (va_A [(ah, .inr (6, [.ref ah_words])), (ah_words, .inl (tt 1, 40, .inr (.inl vh_words)))] sz) := by
  refine Met.ofW (cc := cX7_add) (maxL := 4) (ret := none) (by decide +kernel) rfl ?_
  intro p e s m args below meth c s₁ B hml hv
  obtain ⟨rfl, hsz, hP, hK, hD0, hN⟩ := hv
  have hx := B.exec
  have hb := B.bytes
  have hr := B.returns
  have hts := atoms_spec (ws := wsX7_add) B.pre
  have hown : s.vm.findClass RX7 = some m.cls := findClass_of_methodNamed B.named
  have hlocks := B.notSynchronized
  subst hsz
  have hD := hD0.self (sz := s.heap.size)
  generalize hAe : va_A [(ah, .inr (6, [.ref ah_words])), (ah_words, .inl (tt 1, 40, .inr (.inl vh_words)))] s.heap.size = A at hD ⊢
  have hA : ∀ q : Nat, s.heap.size ≤ q → A q := fun q h => by rw [← hAe]; exact Or.inr h
  have hP : va_P G vwCl [(ah, .inr (6, [.ref ah_words])), (ah_words, .inl (tt 1, 40, .inr (.inl vh_words)))] s.heap := hP
  have hiX7 : ∀ w ∈ wsX70, w ∈ wsX7_add := by decide +kernel
  have hl := lv_entry ([.ref ah, .int p1, .int p2]) (n := 4) (Nat.le_of_ble_eq_true rfl)
  rw [lg_entry_eq]
  generalize (lg_sl ([.ref ah, .int p1, .int p2]) ++ List.replicate (4 - (lg_sl ([.ref ah, .int p1, .int p2])).length) Slot.unset).toArray = ls at hl ⊢
  have hl : lv_has ls 4 [(0, .ref ah), (1, .int p1), (2, .int p2)] := hl
  obtain ⟨H, hHe⟩ : ∃ H : Heap, s.heap = H := ⟨_, rfl⟩
  have hS : va_S A s.heap H [] := by rw [← hHe]; exact va_S.rf
  rw [hHe] at hP ⊢
  unfold fX7_add at hF
  refine lv_iload_n hx hb dX7_add_0 rfl (lv_at hl 1 rfl) ?_
  refine lv_bipush (v := (8 : Int32)) hx hb dX7_add_1 (by decide) ?_
  refine lv_imul hx hb dX7_add_3 ?_
  refine lv_iload_n hx hb dX7_add_4 rfl (lv_at hl 2 rfl) ?_
  refine lv_bipush (v := (6 : Int32)) hx hb dX7_add_5 (by decide) ?_
  refine lv_ishr hx hb dX7_add_7 ?_
  refine lv_iadd hx hb dX7_add_8 ?_
  refine lv_istore_n (lv' := [(3, .int ((p1 * (8 : Int32)) + (p2 >>> ((6 : Int32) &&& 31)))), (0, .ref ah), (1, .int p1), (2, .int p2)]) hx hb dX7_add_9 rfl hl (by decide) rfl (fun ls hl => ?_)
  refine lv_iload_n hx hb dX7_add_10 rfl (lv_at hl 0 rfl) ?_
  refine lv_if_lt (tgt := 38) hx hb dX7_add_11 (by decide) (fun c_11 => ?_) (fun c_11 => ?_)
  · have hF := z_t c_11 hF
    have hPD : zPD G A [(ah, .inr (6, [.ref ah_words])), (ah_words, .inl (tt 1, 40, .inr (.inl vh_words)))] H := ⟨hP.sub [0, 1] rfl, hD.sub [0, 1] (by decide +kernel) rfl⟩
    have hP9 := hPD.1
    have hD9 := hPD.2
    have hR := Option.some.inj hF
    exact W.vret hx hb hr (fun t ht hW => ⟨⟨(vh_words), rfl, (by subst hR; rfl), by rw [ht]; exact hP9, va_K.moved hW.alike hK, hD9⟩, hS.F ht⟩) hS.2.2 dX7_add_38
  · have hF := z_f c_11 hF
    refine lv_iload_n hx hb dX7_add_14 rfl (lv_at hl 0 rfl) ?_
    refine lv_aload_n hx hb dX7_add_15 rfl (lv_at hl 1 rfl) ?_
    refine va_get (D := G) (ci := 6) (v := .ref ah_words) (C := RX7) (T := TX7) (N := 1) hx hb hts hiX7 hown hK hP 0 rfl rfl 0 (by decide) (hts (.fieldLink RX7 9 "LeapTables$Rows" "words" "[J") (List.mem_of_getElem? (i := 1) rfl)) (fun _ h9 => h9) rfl dX7_add_16 ?_
    refine va_alen (v := (40 : Int32)) hx hb hK hP 1 1 rfl rfl (by first | rfl | decide) dX7_add_19 ?_
    refine lv_icmp_ge (tgt := 38) hx hb dX7_add_20 (by decide) (fun c_20 => ?_) (fun c_20 => ?_)
    · have hF := z_t c_20 hF
      have hPD : zPD G A [(ah, .inr (6, [.ref ah_words])), (ah_words, .inl (tt 1, 40, .inr (.inl vh_words)))] H := ⟨hP.sub [0, 1] rfl, hD.sub [0, 1] (by decide +kernel) rfl⟩
      have hP9 := hPD.1
      have hD9 := hPD.2
      have hR := Option.some.inj hF
      exact W.vret hx hb hr (fun t ht hW => ⟨⟨(vh_words), rfl, (by subst hR; rfl), by rw [ht]; exact hP9, va_K.moved hW.alike hK, hD9⟩, hS.F ht⟩) hS.2.2 dX7_add_38
    · have hF := z_f c_20 hF
      refine lv_aload_n hx hb dX7_add_23 rfl (lv_at hl 1 rfl) ?_
      refine va_get (D := G) (ci := 6) (v := .ref ah_words) (C := RX7) (T := TX7) (N := 1) hx hb hts hiX7 hown hK hP 0 rfl rfl 0 (by decide) (hts (.fieldLink RX7 9 "LeapTables$Rows" "words" "[J") (List.mem_of_getElem? (i := 1) rfl)) (fun _ h9 => h9) rfl dX7_add_24 ?_
      refine lv_iload_n hx hb dX7_add_27 rfl (lv_at hl 0 rfl) ?_
      refine lv_dup2_11 hx hb dX7_add_28 rfl rfl ?_
      obtain ⟨h_29, hF⟩ := z_in hF
      refine va_lald hx hb hK hP 1 1 rfl rfl h_29 dX7_add_29 ?_
      refine lv_lconst (v := (1 : Int64)) hx hb dX7_add_30 (by decide) ?_
      refine lv_iload_n hx hb dX7_add_31 rfl (lv_at hl 3 rfl) ?_
      refine lv_bipush (v := (63 : Int32)) hx hb dX7_add_32 (by decide) ?_
      refine lv_iand hx hb dX7_add_34 ?_
      refine lv_lshl hx hb dX7_add_35 rfl ?_
      refine lv_lor hx hb dX7_add_36 ?_
      obtain ⟨h_37, hF⟩ := z_in hF
      refine va_last hx hb hK hP hD hS 1 1 rfl rfl h_37 dX7_add_37 (fun H locs hP hD hS => ?_)
      have hPD : zPD G A [(ah, .inr (6, [.ref ah_words])), (ah_words, .inl (tt 1, 40, .inr (.inl (vp_updL vh_words ((p1 * (8 : Int32)) + (p2 >>> ((6 : Int32) &&& 31))).toNatClampNeg ((vh_words ((p1 * (8 : Int32)) + (p2 >>> ((6 : Int32) &&& 31))).toNatClampNeg) ||| ((1 : Int64) <<< ((p2 &&& (63 : Int32)).toInt64 &&& 63)))))))] H := ⟨hP.sub [0, 1] rfl, hD.sub [0, 1] (by decide +kernel) rfl⟩
      have hP9 := hPD.1
      have hD9 := hPD.2
      have hR := Option.some.inj hF
      exact W.vret hx hb hr (fun t ht hW => ⟨⟨((vp_updL vh_words ((p1 * (8 : Int32)) + (p2 >>> ((6 : Int32) &&& 31))).toNatClampNeg ((vh_words ((p1 * (8 : Int32)) + (p2 >>> ((6 : Int32) &&& 31))).toNatClampNeg) ||| ((1 : Int64) <<< ((p2 &&& (63 : Int32)).toInt64 &&& 63))))), rfl, (by subst hR; rfl), by rw [ht]; exact hP9, va_K.moved hW.alike hK, hD9⟩, hS.F ht⟩) hS.2.2 dX7_add_38

set_option maxHeartbeats 8000000 in
set_option maxRecDepth 100000 in
theorem mX7_remove (l : Launch) (G : va_G) (tt : Nat → ClassId) (sz : Nat) (ah : Nat) (ah_words : Nat) (vh_words : Nat → Int64) (p1 : Int32) (p2 : Int32) (RR : (Nat → Int64)) (hF : fX7_remove p1 p2 vh_words = some RR) : Met l yX7_remove wsX7_remove ({ frames := 0, cells := 0, slots := 0, locals := 0 } : Room) (zPre G (zTy tt) [.ref ah, .int p1, .int p2] sz [(ah, .inr (6, [.ref ah_words])), (ah_words, .inl (tt 1, 40, .inr (.inl vh_words)))]) (va_Qv (fun u : (Nat → Int64) => u = RR) (zAt G (zTy tt) (va_A [(ah, .inr (6, [.ref ah_words])), (ah_words, .inl (tt 1, 40, .inr (.inl vh_words)))] sz) (fun u : (Nat → Int64) => [(ah, .inr (6, [.ref ah_words])), (ah_words, .inl (tt 1, 40, .inr (.inl u)))])) (va_A [(ah, .inr (6, [.ref ah_words])), (ah_words, .inl (tt 1, 40, .inr (.inl vh_words)))] sz)) 0 0 (va_A [(ah, .inr (6, [.ref ah_words])), (ah_words, .inl (tt 1, 40, .inr (.inl vh_words)))] sz) := by
  refine Met.ofW (cc := cX7_remove) (maxL := 4) (ret := none) (by decide +kernel) rfl ?_
  intro p e s m args below meth c s₁ B hml hv
  obtain ⟨rfl, hsz, hP, hK, hD0, hN⟩ := hv
  have hx := B.exec
  have hb := B.bytes
  have hr := B.returns
  have hts := atoms_spec (ws := wsX7_remove) B.pre
  have hown : s.vm.findClass RX7 = some m.cls := findClass_of_methodNamed B.named
  have hlocks := B.notSynchronized
  subst hsz
  have hD := hD0.self (sz := s.heap.size)
  generalize hAe : va_A [(ah, .inr (6, [.ref ah_words])), (ah_words, .inl (tt 1, 40, .inr (.inl vh_words)))] s.heap.size = A at hD ⊢
  have hA : ∀ q : Nat, s.heap.size ≤ q → A q := fun q h => by rw [← hAe]; exact Or.inr h
  have hP : va_P G vwCl [(ah, .inr (6, [.ref ah_words])), (ah_words, .inl (tt 1, 40, .inr (.inl vh_words)))] s.heap := hP
  have hiX7 : ∀ w ∈ wsX70, w ∈ wsX7_remove := by decide +kernel
  have hl := lv_entry ([.ref ah, .int p1, .int p2]) (n := 4) (Nat.le_of_ble_eq_true rfl)
  rw [lg_entry_eq]
  generalize (lg_sl ([.ref ah, .int p1, .int p2]) ++ List.replicate (4 - (lg_sl ([.ref ah, .int p1, .int p2])).length) Slot.unset).toArray = ls at hl ⊢
  have hl : lv_has ls 4 [(0, .ref ah), (1, .int p1), (2, .int p2)] := hl
  obtain ⟨H, hHe⟩ : ∃ H : Heap, s.heap = H := ⟨_, rfl⟩
  have hS : va_S A s.heap H [] := by rw [← hHe]; exact va_S.rf
  rw [hHe] at hP ⊢
  unfold fX7_remove at hF
  refine lv_iload_n hx hb dX7_remove_0 rfl (lv_at hl 1 rfl) ?_
  refine lv_bipush (v := (8 : Int32)) hx hb dX7_remove_1 (by decide) ?_
  refine lv_imul hx hb dX7_remove_3 ?_
  refine lv_iload_n hx hb dX7_remove_4 rfl (lv_at hl 2 rfl) ?_
  refine lv_bipush (v := (6 : Int32)) hx hb dX7_remove_5 (by decide) ?_
  refine lv_ishr hx hb dX7_remove_7 ?_
  refine lv_iadd hx hb dX7_remove_8 ?_
  refine lv_istore_n (lv' := [(3, .int ((p1 * (8 : Int32)) + (p2 >>> ((6 : Int32) &&& 31)))), (0, .ref ah), (1, .int p1), (2, .int p2)]) hx hb dX7_remove_9 rfl hl (by decide) rfl (fun ls hl => ?_)
  refine lv_iload_n hx hb dX7_remove_10 rfl (lv_at hl 0 rfl) ?_
  refine lv_if_lt (tgt := 42) hx hb dX7_remove_11 (by decide) (fun c_11 => ?_) (fun c_11 => ?_)
  · have hF := z_t c_11 hF
    have hPD : zPD G A [(ah, .inr (6, [.ref ah_words])), (ah_words, .inl (tt 1, 40, .inr (.inl vh_words)))] H := ⟨hP.sub [0, 1] rfl, hD.sub [0, 1] (by decide +kernel) rfl⟩
    have hP9 := hPD.1
    have hD9 := hPD.2
    have hR := Option.some.inj hF
    exact W.vret hx hb hr (fun t ht hW => ⟨⟨(vh_words), rfl, (by subst hR; rfl), by rw [ht]; exact hP9, va_K.moved hW.alike hK, hD9⟩, hS.F ht⟩) hS.2.2 dX7_remove_42
  · have hF := z_f c_11 hF
    refine lv_iload_n hx hb dX7_remove_14 rfl (lv_at hl 0 rfl) ?_
    refine lv_aload_n hx hb dX7_remove_15 rfl (lv_at hl 1 rfl) ?_
    refine va_get (D := G) (ci := 6) (v := .ref ah_words) (C := RX7) (T := TX7) (N := 1) hx hb hts hiX7 hown hK hP 0 rfl rfl 0 (by decide) (hts (.fieldLink RX7 9 "LeapTables$Rows" "words" "[J") (List.mem_of_getElem? (i := 1) rfl)) (fun _ h9 => h9) rfl dX7_remove_16 ?_
    refine va_alen (v := (40 : Int32)) hx hb hK hP 1 1 rfl rfl (by first | rfl | decide) dX7_remove_19 ?_
    refine lv_icmp_ge (tgt := 42) hx hb dX7_remove_20 (by decide) (fun c_20 => ?_) (fun c_20 => ?_)
    · have hF := z_t c_20 hF
      have hPD : zPD G A [(ah, .inr (6, [.ref ah_words])), (ah_words, .inl (tt 1, 40, .inr (.inl vh_words)))] H := ⟨hP.sub [0, 1] rfl, hD.sub [0, 1] (by decide +kernel) rfl⟩
      have hP9 := hPD.1
      have hD9 := hPD.2
      have hR := Option.some.inj hF
      exact W.vret hx hb hr (fun t ht hW => ⟨⟨(vh_words), rfl, (by subst hR; rfl), by rw [ht]; exact hP9, va_K.moved hW.alike hK, hD9⟩, hS.F ht⟩) hS.2.2 dX7_remove_42
    · have hF := z_f c_20 hF
      refine lv_aload_n hx hb dX7_remove_23 rfl (lv_at hl 1 rfl) ?_
      refine va_get (D := G) (ci := 6) (v := .ref ah_words) (C := RX7) (T := TX7) (N := 1) hx hb hts hiX7 hown hK hP 0 rfl rfl 0 (by decide) (hts (.fieldLink RX7 9 "LeapTables$Rows" "words" "[J") (List.mem_of_getElem? (i := 1) rfl)) (fun _ h9 => h9) rfl dX7_remove_24 ?_
      refine lv_iload_n hx hb dX7_remove_27 rfl (lv_at hl 0 rfl) ?_
      refine lv_dup2_11 hx hb dX7_remove_28 rfl rfl ?_
      obtain ⟨h_29, hF⟩ := z_in hF
      refine va_lald hx hb hK hP 1 1 rfl rfl h_29 dX7_remove_29 ?_
      refine lv_lconst (v := (1 : Int64)) hx hb dX7_remove_30 (by decide) ?_
      refine lv_iload_n hx hb dX7_remove_31 rfl (lv_at hl 3 rfl) ?_
      refine lv_bipush (v := (63 : Int32)) hx hb dX7_remove_32 (by decide) ?_
      refine lv_iand hx hb dX7_remove_34 ?_
      refine lv_lshl hx hb dX7_remove_35 rfl ?_
      refine lv_ldc2 (v := (-1 : Int64)) hx hb hown (hts (.constantLong RX7 15 (-1)) (List.mem_of_getElem? (i := 2) rfl)) dX7_remove_36 ?_
      refine lv_lxor hx hb dX7_remove_39 ?_
      refine lv_land hx hb dX7_remove_40 ?_
      obtain ⟨h_41, hF⟩ := z_in hF
      refine va_last hx hb hK hP hD hS 1 1 rfl rfl h_41 dX7_remove_41 (fun H locs hP hD hS => ?_)
      have hPD : zPD G A [(ah, .inr (6, [.ref ah_words])), (ah_words, .inl (tt 1, 40, .inr (.inl (vp_updL vh_words ((p1 * (8 : Int32)) + (p2 >>> ((6 : Int32) &&& 31))).toNatClampNeg ((vh_words ((p1 * (8 : Int32)) + (p2 >>> ((6 : Int32) &&& 31))).toNatClampNeg) &&& (((1 : Int64) <<< ((p2 &&& (63 : Int32)).toInt64 &&& 63)) ^^^ (-1 : Int64)))))))] H := ⟨hP.sub [0, 1] rfl, hD.sub [0, 1] (by decide +kernel) rfl⟩
      have hP9 := hPD.1
      have hD9 := hPD.2
      have hR := Option.some.inj hF
      exact W.vret hx hb hr (fun t ht hW => ⟨⟨((vp_updL vh_words ((p1 * (8 : Int32)) + (p2 >>> ((6 : Int32) &&& 31))).toNatClampNeg ((vh_words ((p1 * (8 : Int32)) + (p2 >>> ((6 : Int32) &&& 31))).toNatClampNeg) &&& (((1 : Int64) <<< ((p2 &&& (63 : Int32)).toInt64 &&& 63)) ^^^ (-1 : Int64))))), rfl, (by subst hR; rfl), by rw [ht]; exact hP9, va_K.moved hW.alike hK, hD9⟩, hS.F ht⟩) hS.2.2 dX7_remove_42

set_option maxHeartbeats 8000000 in
set_option maxRecDepth 100000 in
theorem mX7_copyFrom (l : Launch) (G : va_G) (tt : Nat → ClassId) (sz : Nat) (K : Nat) (ah : Nat) (ah_words : Nat) (vh_words : Nat → Int64) (ag1 : Nat) (ag1_words : Nat) (vg1_words : Nat → Int64) (RR : (Nat → Int64)) (hF : fX7_copyFrom K vg1_words vh_words = some RR) : Met l yX7_copyFrom wsX7_copyFrom ({ frames := 0, cells := 0, slots := 0, locals := 0 } : Room) (zPre G (zTy tt) [.ref ah, .ref ag1] sz [(ah, .inr (6, [.ref ah_words])), (ah_words, .inl (tt 1, 40, .inr (.inl vh_words))), (ag1, .inr (6, [.ref ag1_words])), (ag1_words, .inl (tt 1, 40, .inr (.inl vg1_words)))]) (va_Qv (fun u : (Nat → Int64) => u = RR) (zAt G (zTy tt) (va_A [(ah, .inr (6, [.ref ah_words])), (ah_words, .inl (tt 1, 40, .inr (.inl vh_words))), (ag1, .inr (6, [.ref ag1_words])), (ag1_words, .inl (tt 1, 40, .inr (.inl vg1_words)))] sz) (fun u : (Nat → Int64) => [(ah, .inr (6, [.ref ah_words])), (ah_words, .inl (tt 1, 40, .inr (.inl u))), (ag1, .inr (6, [.ref ag1_words])), (ag1_words, .inl (tt 1, 40, .inr (.inl vg1_words)))])) (va_A [(ah, .inr (6, [.ref ah_words])), (ah_words, .inl (tt 1, 40, .inr (.inl vh_words))), (ag1, .inr (6, [.ref ag1_words])), (ag1_words, .inl (tt 1, 40, .inr (.inl vg1_words)))] sz)) 0 0 (va_A [(ah, .inr (6, [.ref ah_words])), (ah_words, .inl (tt 1, 40, .inr (.inl vh_words))), (ag1, .inr (6, [.ref ag1_words])), (ag1_words, .inl (tt 1, 40, .inr (.inl vg1_words)))] sz) := by
  refine Met.ofW (cc := cX7_copyFrom) (maxL := 3) (ret := none) (by decide +kernel) rfl ?_
  intro p e s m args below meth c s₁ B hml hv
  obtain ⟨rfl, hsz, hP, hK, hD0, hN⟩ := hv
  have hx := B.exec
  have hb := B.bytes
  have hr := B.returns
  have hts := atoms_spec (ws := wsX7_copyFrom) B.pre
  have hown : s.vm.findClass RX7 = some m.cls := findClass_of_methodNamed B.named
  have hlocks := B.notSynchronized
  subst hsz
  have hD := hD0.self (sz := s.heap.size)
  generalize hAe : va_A [(ah, .inr (6, [.ref ah_words])), (ah_words, .inl (tt 1, 40, .inr (.inl vh_words))), (ag1, .inr (6, [.ref ag1_words])), (ag1_words, .inl (tt 1, 40, .inr (.inl vg1_words)))] s.heap.size = A at hD ⊢
  have hA : ∀ q : Nat, s.heap.size ≤ q → A q := fun q h => by rw [← hAe]; exact Or.inr h
  have hP : va_P G vwCl [(ah, .inr (6, [.ref ah_words])), (ah_words, .inl (tt 1, 40, .inr (.inl vh_words))), (ag1, .inr (6, [.ref ag1_words])), (ag1_words, .inl (tt 1, 40, .inr (.inl vg1_words)))] s.heap := hP
  have hiX7 : ∀ w ∈ wsX70, w ∈ wsX7_copyFrom := by decide +kernel
  have hl := lv_entry ([.ref ah, .ref ag1]) (n := 3) (Nat.le_of_ble_eq_true rfl)
  rw [lg_entry_eq]
  generalize (lg_sl ([.ref ah, .ref ag1]) ++ List.replicate (3 - (lg_sl ([.ref ah, .ref ag1])).length) Slot.unset).toArray = ls at hl ⊢
  have hl : lv_has ls 3 [(0, .ref ah), (1, .ref ag1)] := hl
  have hb2 : ∀ (k2 : Nat) (x2 : Int32) (vh_words : Nat → Int64) (H : Heap) (locs : List Loc) (ls : Array Slot), fX7_copyFrom_2 K vg1_words k2 x2 vh_words = some RR → va_P G vwCl [(ah, .inr (6, [.ref ah_words])), (ah_words, .inl (tt 1, 40, .inr (.inl vh_words))), (ag1, .inr (6, [.ref ag1_words])), (ag1_words, .inl (tt 1, 40, .inr (.inl vg1_words)))] H → va_D A [(ah, .inr (6, [.ref ah_words])), (ah_words, .inl (tt 1, 40, .inr (.inl vh_words))), (ag1, .inr (6, [.ref ag1_words])), (ag1_words, .inl (tt 1, 40, .inr (.inl vg1_words)))] → va_S A s.heap H locs → lv_has ls 3 [(0, .ref ah), (1, .ref ag1), (2, .int x2)] → W p l e (headSpec wsX7_copyFrom ({ frames := 0, cells := 0, slots := 0, locals := 0 } : Room)).room s m ([.ref ah, .ref ag1] : List Value).toArray below meth c H locs 0 0 (MQ below (va_Qv (fun u : (Nat → Int64) => u = RR) (zAt G (zTy tt) A (fun u : (Nat → Int64) => [(ah, .inr (6, [.ref ah_words])), (ah_words, .inl (tt 1, 40, .inr (.inl u))), (ag1, .inr (6, [.ref ag1_words])), (ag1_words, .inl (tt 1, 40, .inr (.inl vg1_words)))])) A) ([.ref ah, .ref ag1] : List Value).toArray s 0 0 A) (F0 m 2 ls []) := by
    intro k2
    induction k2 with
    | zero => intro x2 vh_words H locs ls hF; rw [fX7_copyFrom_2] at hF; cases hF
    | succ k2 ih2 =>
      intro x2 vh_words H locs ls hF hP hD hS hl
      rw [fX7_copyFrom_2] at hF
      refine lv_iload_n hx hb dX7_copyFrom_2 rfl (lv_at hl 2 rfl) ?_
      refine lv_aload_n hx hb dX7_copyFrom_3 rfl (lv_at hl 0 rfl) ?_
      refine va_get (D := G) (ci := 6) (v := .ref ah_words) (C := RX7) (T := TX7) (N := 1) hx hb hts hiX7 hown hK hP 0 rfl rfl 0 (by decide) (hts (.fieldLink RX7 9 "LeapTables$Rows" "words" "[J") (List.mem_of_getElem? (i := 1) rfl)) (fun _ h9 => h9) rfl dX7_copyFrom_4 ?_
      refine va_alen (v := (40 : Int32)) hx hb hK hP 1 1 rfl rfl (by first | rfl | decide) dX7_copyFrom_7 ?_
      refine lv_icmp_ge (tgt := 38) hx hb dX7_copyFrom_8 (by decide) (fun c_8 => ?_) (fun c_8 => ?_)
      · have hF := z_t c_8 hF
        have hPD : zPD G A [(ah, .inr (6, [.ref ah_words])), (ah_words, .inl (tt 1, 40, .inr (.inl vh_words))), (ag1, .inr (6, [.ref ag1_words])), (ag1_words, .inl (tt 1, 40, .inr (.inl vg1_words)))] H := ⟨hP.sub [0, 1, 2, 3] rfl, hD.sub [0, 1, 2, 3] (by decide +kernel) rfl⟩
        have hP9 := hPD.1
        have hD9 := hPD.2
        have hR := Option.some.inj hF
        exact W.vret hx hb hr (fun t ht hW => ⟨⟨(vh_words), rfl, (by subst hR; rfl), by rw [ht]; exact hP9, va_K.moved hW.alike hK, hD9⟩, hS.F ht⟩) hS.2.2 dX7_copyFrom_38
      · have hF := z_f c_8 hF
        refine lv_iload_n hx hb dX7_copyFrom_11 rfl (lv_at hl 2 rfl) ?_
        refine lv_aload_n hx hb dX7_copyFrom_12 rfl (lv_at hl 1 rfl) ?_
        refine va_get (D := G) (ci := 6) (v := .ref ag1_words) (C := RX7) (T := TX7) (N := 1) hx hb hts hiX7 hown hK hP 2 rfl rfl 0 (by decide) (hts (.fieldLink RX7 9 "LeapTables$Rows" "words" "[J") (List.mem_of_getElem? (i := 1) rfl)) (fun _ h9 => h9) rfl dX7_copyFrom_13 ?_
        refine va_alen (v := (40 : Int32)) hx hb hK hP 3 1 rfl rfl (by first | rfl | decide) dX7_copyFrom_16 ?_
        refine lv_icmp_ge (tgt := 38) hx hb dX7_copyFrom_17 (by decide) (fun c_17 => ?_) (fun c_17 => ?_)
        · have hF := z_t c_17 hF
          have hPD : zPD G A [(ah, .inr (6, [.ref ah_words])), (ah_words, .inl (tt 1, 40, .inr (.inl vh_words))), (ag1, .inr (6, [.ref ag1_words])), (ag1_words, .inl (tt 1, 40, .inr (.inl vg1_words)))] H := ⟨hP.sub [0, 1, 2, 3] rfl, hD.sub [0, 1, 2, 3] (by decide +kernel) rfl⟩
          have hP9 := hPD.1
          have hD9 := hPD.2
          have hR := Option.some.inj hF
          exact W.vret hx hb hr (fun t ht hW => ⟨⟨(vh_words), rfl, (by subst hR; rfl), by rw [ht]; exact hP9, va_K.moved hW.alike hK, hD9⟩, hS.F ht⟩) hS.2.2 dX7_copyFrom_38
        · have hF := z_f c_17 hF
          refine lv_aload_n hx hb dX7_copyFrom_20 rfl (lv_at hl 0 rfl) ?_
          refine va_get (D := G) (ci := 6) (v := .ref ah_words) (C := RX7) (T := TX7) (N := 1) hx hb hts hiX7 hown hK hP 0 rfl rfl 0 (by decide) (hts (.fieldLink RX7 9 "LeapTables$Rows" "words" "[J") (List.mem_of_getElem? (i := 1) rfl)) (fun _ h9 => h9) rfl dX7_copyFrom_21 ?_
          refine lv_iload_n hx hb dX7_copyFrom_24 rfl (lv_at hl 2 rfl) ?_
          refine lv_aload_n hx hb dX7_copyFrom_25 rfl (lv_at hl 1 rfl) ?_
          refine va_get (D := G) (ci := 6) (v := .ref ag1_words) (C := RX7) (T := TX7) (N := 1) hx hb hts hiX7 hown hK hP 2 rfl rfl 0 (by decide) (hts (.fieldLink RX7 9 "LeapTables$Rows" "words" "[J") (List.mem_of_getElem? (i := 1) rfl)) (fun _ h9 => h9) rfl dX7_copyFrom_26 ?_
          refine lv_iload_n hx hb dX7_copyFrom_29 rfl (lv_at hl 2 rfl) ?_
          obtain ⟨h_30, hF⟩ := z_in hF
          refine va_lald hx hb hK hP 3 1 rfl rfl h_30 dX7_copyFrom_30 ?_
          obtain ⟨h_31, hF⟩ := z_in hF
          refine va_last hx hb hK hP hD hS 1 1 rfl rfl h_31 dX7_copyFrom_31 (fun H locs hP hD hS => ?_)
          refine lv_iinc (v := (x2 + (1 : Int32))) (lv' := [(2, .int (x2 + (1 : Int32))), (0, .ref ah), (1, .ref ag1)]) hx hb dX7_copyFrom_32 hl (k := 2) rfl rfl (by decide) rfl (fun ls hl => ?_)
          refine lv_goto (tgt := 2) hx hb dX7_copyFrom_35 (by decide) ?_
          exact ih2 _ _ _ _ _ hF hP hD hS (lv_sub hl [1, 2, 0] rfl)
  obtain ⟨H, hHe⟩ : ∃ H : Heap, s.heap = H := ⟨_, rfl⟩
  have hS : va_S A s.heap H [] := by rw [← hHe]; exact va_S.rf
  rw [hHe] at hP ⊢
  unfold fX7_copyFrom at hF
  refine lv_iconst (v := (0 : Int32)) hx hb dX7_copyFrom_0 (by decide) ?_
  refine lv_istore_n (lv' := [(2, .int (0 : Int32)), (0, .ref ah), (1, .ref ag1)]) hx hb dX7_copyFrom_1 rfl hl (by decide) rfl (fun ls hl => ?_)
  exact hb2 K _ _ _ _ _ hF hP hD hS (lv_sub hl [1, 2, 0] rfl)

set_option maxHeartbeats 8000000 in
set_option maxRecDepth 100000 in
theorem mX7_take (l : Launch) (G : va_G) (tt : Nat → ClassId) (sz : Nat) (K : Nat) (ah : Nat) (ah_words : Nat) (vh_words : Nat → Int64) (ag1 : Nat) (ag1_words : Nat) (vg1_words : Nat → Int64) (RR : Bool × (Nat → Int64)) (hF : fX7_take K vg1_words vh_words = some RR) : Met l yX7_take wsX7_take ({ frames := 0, cells := 0, slots := 0, locals := 0 } : Room) (zPre G (zTy tt) [.ref ah, .ref ag1] sz [(ah, .inr (6, [.ref ah_words])), (ah_words, .inl (tt 1, 40, .inr (.inl vh_words))), (ag1, .inr (6, [.ref ag1_words])), (ag1_words, .inl (tt 1, 40, .inr (.inl vg1_words)))]) (va_Qi (fun (r : Int32) (u : (Nat → Int64)) => r = bI RR.1 ∧ u = RR.2) (zAt G (zTy tt) (va_A [(ah, .inr (6, [.ref ah_words])), (ah_words, .inl (tt 1, 40, .inr (.inl vh_words))), (ag1, .inr (6, [.ref ag1_words])), (ag1_words, .inl (tt 1, 40, .inr (.inl vg1_words)))] sz) (fun u : (Nat → Int64) => [(ah, .inr (6, [.ref ah_words])), (ah_words, .inl (tt 1, 40, .inr (.inl u))), (ag1, .inr (6, [.ref ag1_words])), (ag1_words, .inl (tt 1, 40, .inr (.inl vg1_words)))])) (va_A [(ah, .inr (6, [.ref ah_words])), (ah_words, .inl (tt 1, 40, .inr (.inl vh_words))), (ag1, .inr (6, [.ref ag1_words])), (ag1_words, .inl (tt 1, 40, .inr (.inl vg1_words)))] sz)) 0 0 (va_A [(ah, .inr (6, [.ref ah_words])), (ah_words, .inl (tt 1, 40, .inr (.inl vh_words))), (ag1, .inr (6, [.ref ag1_words])), (ag1_words, .inl (tt 1, 40, .inr (.inl vg1_words)))] sz) := by
  refine Met.ofW (cc := cX7_take) (maxL := 6) (ret := (some .boolean)) (by decide +kernel) rfl ?_
  intro p e s m args below meth c s₁ B hml hv
  obtain ⟨rfl, hsz, hP, hK, hD0, hN⟩ := hv
  have hx := B.exec
  have hb := B.bytes
  have hr := B.returns
  have hts := atoms_spec (ws := wsX7_take) B.pre
  have hown : s.vm.findClass RX7 = some m.cls := findClass_of_methodNamed B.named
  have hlocks := B.notSynchronized
  subst hsz
  have hD := hD0.self (sz := s.heap.size)
  generalize hAe : va_A [(ah, .inr (6, [.ref ah_words])), (ah_words, .inl (tt 1, 40, .inr (.inl vh_words))), (ag1, .inr (6, [.ref ag1_words])), (ag1_words, .inl (tt 1, 40, .inr (.inl vg1_words)))] s.heap.size = A at hD ⊢
  have hA : ∀ q : Nat, s.heap.size ≤ q → A q := fun q h => by rw [← hAe]; exact Or.inr h
  have hP : va_P G vwCl [(ah, .inr (6, [.ref ah_words])), (ah_words, .inl (tt 1, 40, .inr (.inl vh_words))), (ag1, .inr (6, [.ref ag1_words])), (ag1_words, .inl (tt 1, 40, .inr (.inl vg1_words)))] s.heap := hP
  have hiX7 : ∀ w ∈ wsX70, w ∈ wsX7_take := by decide +kernel
  have hl := lv_entry ([.ref ah, .ref ag1]) (n := 6) (Nat.le_of_ble_eq_true rfl)
  rw [lg_entry_eq]
  generalize (lg_sl ([.ref ah, .ref ag1]) ++ List.replicate (6 - (lg_sl ([.ref ah, .ref ag1])).length) Slot.unset).toArray = ls at hl ⊢
  have hl : lv_has ls 6 [(0, .ref ah), (1, .ref ag1)] := hl
  have hb4 : ∀ (k4 : Nat) (x2 : Int32) (x3 : Int32) (vh_words : Nat → Int64) (H : Heap) (locs : List Loc) (ls : Array Slot), fX7_take_4 K vg1_words k4 x2 x3 vh_words = some RR → va_P G vwCl [(ah, .inr (6, [.ref ah_words])), (ah_words, .inl (tt 1, 40, .inr (.inl vh_words))), (ag1, .inr (6, [.ref ag1_words])), (ag1_words, .inl (tt 1, 40, .inr (.inl vg1_words)))] H → va_D A [(ah, .inr (6, [.ref ah_words])), (ah_words, .inl (tt 1, 40, .inr (.inl vh_words))), (ag1, .inr (6, [.ref ag1_words])), (ag1_words, .inl (tt 1, 40, .inr (.inl vg1_words)))] → va_S A s.heap H locs → lv_has ls 6 [(0, .ref ah), (1, .ref ag1), (2, .int x2), (3, .int x3)] → W p l e (headSpec wsX7_take ({ frames := 0, cells := 0, slots := 0, locals := 0 } : Room)).room s m ([.ref ah, .ref ag1] : List Value).toArray below meth c H locs 0 0 (MQ below (va_Qi (fun (r : Int32) (u : (Nat → Int64)) => r = bI RR.1 ∧ u = RR.2) (zAt G (zTy tt) A (fun u : (Nat → Int64) => [(ah, .inr (6, [.ref ah_words])), (ah_words, .inl (tt 1, 40, .inr (.inl u))), (ag1, .inr (6, [.ref ag1_words])), (ag1_words, .inl (tt 1, 40, .inr (.inl vg1_words)))])) A) ([.ref ah, .ref ag1] : List Value).toArray s 0 0 A) (F0 m 4 ls []) := by
    intro k4
    induction k4 with
    | zero => intro x2 x3 vh_words H locs ls hF; rw [fX7_take_4] at hF; cases hF
    | succ k4 ih4 =>
      have hb55 : ∀ (x3 : Int32) (x4 : Int64) (t0 : Int32) (t1 : Int32) (vh_words : Nat → Int64) (H : Heap) (locs : List Loc) (ls : Array Slot), fX7_take_55 K vg1_words (fX7_take_4 K vg1_words k4) x3 x4 t0 t1 vh_words = some RR → va_P G vwCl [(ah, .inr (6, [.ref ah_words])), (ah_words, .inl (tt 1, 40, .inr (.inl vh_words))), (ag1, .inr (6, [.ref ag1_words])), (ag1_words, .inl (tt 1, 40, .inr (.inl vg1_words)))] H → va_D A [(ah, .inr (6, [.ref ah_words])), (ah_words, .inl (tt 1, 40, .inr (.inl vh_words))), (ag1, .inr (6, [.ref ag1_words])), (ag1_words, .inl (tt 1, 40, .inr (.inl vg1_words)))] → va_S A s.heap H locs → lv_has ls 6 [(0, .ref ah), (1, .ref ag1), (3, .int x3), (4, .long x4)] → W p l e (headSpec wsX7_take ({ frames := 0, cells := 0, slots := 0, locals := 0 } : Room)).room s m ([.ref ah, .ref ag1] : List Value).toArray below meth c H locs 0 0 (MQ below (va_Qi (fun (r : Int32) (u : (Nat → Int64)) => r = bI RR.1 ∧ u = RR.2) (zAt G (zTy tt) A (fun u : (Nat → Int64) => [(ah, .inr (6, [.ref ah_words])), (ah_words, .inl (tt 1, 40, .inr (.inl u))), (ag1, .inr (6, [.ref ag1_words])), (ag1_words, .inl (tt 1, 40, .inr (.inl vg1_words)))])) A) ([.ref ah, .ref ag1] : List Value).toArray s 0 0 A) (F0 m 55 ls [.int t1, .int t0]) := by
        intro x3 x4 t0 t1 vh_words H locs ls hF hP hD hS hl
        unfold fX7_take_55 at hF
        refine lv_ior hx hb dX7_take_55 ?_
        refine lv_istore_n (lv' := [(2, .int (t0 ||| t1)), (0, .ref ah), (1, .ref ag1), (3, .int x3), (4, .long x4)]) hx hb dX7_take_56 rfl hl (by decide) rfl (fun ls hl => ?_)
        refine lv_aload_n hx hb dX7_take_57 rfl (lv_at hl 1 rfl) ?_
        refine va_get (D := G) (ci := 6) (v := .ref ah_words) (C := RX7) (T := TX7) (N := 1) hx hb hts hiX7 hown hK hP 0 rfl rfl 0 (by decide) (hts (.fieldLink RX7 9 "LeapTables$Rows" "words" "[J") (List.mem_of_getElem? (i := 1) rfl)) (fun _ h9 => h9) rfl dX7_take_58 ?_
        refine lv_iload_n hx hb dX7_take_61 rfl (lv_at hl 3 rfl) ?_
        refine lv_lload hx hb dX7_take_62 (lv_at hl 4 rfl) ?_
        obtain ⟨h_64, hF⟩ := z_in hF
        refine va_last hx hb hK hP hD hS 1 1 rfl rfl h_64 dX7_take_64 (fun H locs hP hD hS => ?_)
        refine lv_iinc (v := (x3 + (1 : Int32))) (lv' := [(3, .int (x3 + (1 : Int32))), (2, .int (t0 ||| t1)), (0, .ref ah), (1, .ref ag1), (4, .long x4)]) hx hb dX7_take_65 hl (k := 3) rfl rfl (by decide) rfl (fun ls hl => ?_)
        refine lv_goto (tgt := 4) hx hb dX7_take_68 (by decide) ?_
        exact ih4 _ _ _ _ _ _ hF hP hD hS (lv_sub hl [2, 3, 1, 0] rfl)
      intro x2 x3 vh_words H locs ls hF hP hD hS hl
      rw [fX7_take_4] at hF
      refine lv_iload_n hx hb dX7_take_4 rfl (lv_at hl 3 rfl) ?_
      refine lv_aload_n hx hb dX7_take_5 rfl (lv_at hl 0 rfl) ?_
      refine va_get (D := G) (ci := 6) (v := .ref ah_words) (C := RX7) (T := TX7) (N := 1) hx hb hts hiX7 hown hK hP 0 rfl rfl 0 (by decide) (hts (.fieldLink RX7 9 "LeapTables$Rows" "words" "[J") (List.mem_of_getElem? (i := 1) rfl)) (fun _ h9 => h9) rfl dX7_take_6 ?_
      refine va_alen (v := (40 : Int32)) hx hb hK hP 1 1 rfl rfl (by first | rfl | decide) dX7_take_9 ?_
      refine lv_icmp_ge (tgt := 71) hx hb dX7_take_10 (by decide) (fun c_10 => ?_) (fun c_10 => ?_)
      · have hF := z_t c_10 hF
        refine lv_iload_n hx hb dX7_take_71 rfl (lv_at hl 2 rfl) ?_
        have hPD : zPD G A [(ah, .inr (6, [.ref ah_words])), (ah_words, .inl (tt 1, 40, .inr (.inl vh_words))), (ag1, .inr (6, [.ref ag1_words])), (ag1_words, .inl (tt 1, 40, .inr (.inl vg1_words)))] H := ⟨hP.sub [0, 1, 2, 3] rfl, hD.sub [0, 1, 2, 3] (by decide +kernel) rfl⟩
        have hP9 := hPD.1
        have hD9 := hPD.2
        refine lv_topi (fun y_72 ey_72 => ?_)
        rcases z_bool hF with ⟨eb, hF⟩ | ⟨eb, hF⟩
        · have ez := ey_72.trans eb
          subst ez
          have hR := Option.some.inj hF
          exact W.zret (v := (0 : Int32)) hx hb hr rfl (fun t ht hW => ⟨⟨(0 : Int32), (vh_words), rfl, (by subst hR; exact ⟨rfl, rfl⟩), by rw [ht]; exact hP9, va_K.moved hW.alike hK, hD9⟩, hS.F ht⟩) hS.2.2 dX7_take_72
        · have ez := ey_72.trans eb
          subst ez
          have hR := Option.some.inj hF
          exact W.zret (v := (1 : Int32)) hx hb hr rfl (fun t ht hW => ⟨⟨(1 : Int32), (vh_words), rfl, (by subst hR; exact ⟨rfl, rfl⟩), by rw [ht]; exact hP9, va_K.moved hW.alike hK, hD9⟩, hS.F ht⟩) hS.2.2 dX7_take_72
      · have hF := z_f c_10 hF
        refine lv_iload_n hx hb dX7_take_13 rfl (lv_at hl 3 rfl) ?_
        refine lv_aload_n hx hb dX7_take_14 rfl (lv_at hl 1 rfl) ?_
        refine va_get (D := G) (ci := 6) (v := .ref ag1_words) (C := RX7) (T := TX7) (N := 1) hx hb hts hiX7 hown hK hP 2 rfl rfl 0 (by decide) (hts (.fieldLink RX7 9 "LeapTables$Rows" "words" "[J") (List.mem_of_getElem? (i := 1) rfl)) (fun _ h9 => h9) rfl dX7_take_15 ?_
        refine va_alen (v := (40 : Int32)) hx hb hK hP 3 1 rfl rfl (by first | rfl | decide) dX7_take_18 ?_
        refine lv_icmp_ge (tgt := 71) hx hb dX7_take_19 (by decide) (fun c_19 => ?_) (fun c_19 => ?_)
        · have hF := z_t c_19 hF
          refine lv_iload_n hx hb dX7_take_71 rfl (lv_at hl 2 rfl) ?_
          have hPD : zPD G A [(ah, .inr (6, [.ref ah_words])), (ah_words, .inl (tt 1, 40, .inr (.inl vh_words))), (ag1, .inr (6, [.ref ag1_words])), (ag1_words, .inl (tt 1, 40, .inr (.inl vg1_words)))] H := ⟨hP.sub [0, 1, 2, 3] rfl, hD.sub [0, 1, 2, 3] (by decide +kernel) rfl⟩
          have hP9 := hPD.1
          have hD9 := hPD.2
          refine lv_topi (fun y_72 ey_72 => ?_)
          rcases z_bool hF with ⟨eb, hF⟩ | ⟨eb, hF⟩
          · have ez := ey_72.trans eb
            subst ez
            have hR := Option.some.inj hF
            exact W.zret (v := (0 : Int32)) hx hb hr rfl (fun t ht hW => ⟨⟨(0 : Int32), (vh_words), rfl, (by subst hR; exact ⟨rfl, rfl⟩), by rw [ht]; exact hP9, va_K.moved hW.alike hK, hD9⟩, hS.F ht⟩) hS.2.2 dX7_take_72
          · have ez := ey_72.trans eb
            subst ez
            have hR := Option.some.inj hF
            exact W.zret (v := (1 : Int32)) hx hb hr rfl (fun t ht hW => ⟨⟨(1 : Int32), (vh_words), rfl, (by subst hR; exact ⟨rfl, rfl⟩), by rw [ht]; exact hP9, va_K.moved hW.alike hK, hD9⟩, hS.F ht⟩) hS.2.2 dX7_take_72
        · have hF := z_f c_19 hF
          refine lv_aload_n hx hb dX7_take_22 rfl (lv_at hl 0 rfl) ?_
          refine va_get (D := G) (ci := 6) (v := .ref ah_words) (C := RX7) (T := TX7) (N := 1) hx hb hts hiX7 hown hK hP 0 rfl rfl 0 (by decide) (hts (.fieldLink RX7 9 "LeapTables$Rows" "words" "[J") (List.mem_of_getElem? (i := 1) rfl)) (fun _ h9 => h9) rfl dX7_take_23 ?_
          refine lv_iload_n hx hb dX7_take_26 rfl (lv_at hl 3 rfl) ?_
          obtain ⟨h_27, hF⟩ := z_in hF
          refine va_lald hx hb hK hP 1 1 rfl rfl h_27 dX7_take_27 ?_
          refine lv_aload_n hx hb dX7_take_28 rfl (lv_at hl 1 rfl) ?_
          refine va_get (D := G) (ci := 6) (v := .ref ag1_words) (C := RX7) (T := TX7) (N := 1) hx hb hts hiX7 hown hK hP 2 rfl rfl 0 (by decide) (hts (.fieldLink RX7 9 "LeapTables$Rows" "words" "[J") (List.mem_of_getElem? (i := 1) rfl)) (fun _ h9 => h9) rfl dX7_take_29 ?_
          refine lv_iload_n hx hb dX7_take_32 rfl (lv_at hl 3 rfl) ?_
          obtain ⟨h_33, hF⟩ := z_in hF
          refine va_lald hx hb hK hP 3 1 rfl rfl h_33 dX7_take_33 ?_
          refine lv_lor hx hb dX7_take_34 ?_
          refine lv_lstore (lv' := [(4, .long ((vh_words x3.toNatClampNeg) ||| (vg1_words x3.toNatClampNeg))), (0, .ref ah), (1, .ref ag1), (2, .int x2), (3, .int x3)]) hx hb dX7_take_35 hl (by decide) rfl (fun ls hl => ?_)
          refine lv_iload_n hx hb dX7_take_37 rfl (lv_at hl 3 rfl) ?_
          refine lv_lload hx hb dX7_take_38 (lv_at hl 0 rfl) ?_
          refine lv_aload_n hx hb dX7_take_40 rfl (lv_at hl 1 rfl) ?_
          refine va_get (D := G) (ci := 6) (v := .ref ah_words) (C := RX7) (T := TX7) (N := 1) hx hb hts hiX7 hown hK hP 0 rfl rfl 0 (by decide) (hts (.fieldLink RX7 9 "LeapTables$Rows" "words" "[J") (List.mem_of_getElem? (i := 1) rfl)) (fun _ h9 => h9) rfl dX7_take_41 ?_
          refine lv_iload_n hx hb dX7_take_44 rfl (lv_at hl 4 rfl) ?_
          obtain ⟨h_45, hF⟩ := z_in hF
          refine va_lald hx hb hK hP 1 1 rfl rfl h_45 dX7_take_45 ?_
          refine W.lcmp hx hb dX7_take_46 ?_
          refine lv_if_eq (tgt := 54) hx hb dX7_take_47 (by decide) (fun c_47 => ?_) (fun c_47 => ?_)
          · have hF := z_t c_47 hF
            refine lv_iconst (v := (0 : Int32)) hx hb dX7_take_54 (by decide) ?_
            exact hb55 _ _ _ _ _ _ _ _ hF hP hD hS (lv_sub hl [1, 2, 4, 0] rfl)
          · have hF := z_f c_47 hF
            refine lv_iconst (v := (1 : Int32)) hx hb dX7_take_50 (by decide) ?_
            refine lv_goto (tgt := 55) hx hb dX7_take_51 (by decide) ?_
            exact hb55 _ _ _ _ _ _ _ _ hF hP hD hS (lv_sub hl [1, 2, 4, 0] rfl)
  obtain ⟨H, hHe⟩ : ∃ H : Heap, s.heap = H := ⟨_, rfl⟩
  have hS : va_S A s.heap H [] := by rw [← hHe]; exact va_S.rf
  rw [hHe] at hP ⊢
  unfold fX7_take at hF
  refine lv_iconst (v := (0 : Int32)) hx hb dX7_take_0 (by decide) ?_
  refine lv_istore_n (lv' := [(2, .int (0 : Int32)), (0, .ref ah), (1, .ref ag1)]) hx hb dX7_take_1 rfl hl (by decide) rfl (fun ls hl => ?_)
  refine lv_iconst (v := (0 : Int32)) hx hb dX7_take_2 (by decide) ?_
  refine lv_istore_n (lv' := [(3, .int (0 : Int32)), (2, .int (0 : Int32)), (0, .ref ah), (1, .ref ag1)]) hx hb dX7_take_3 rfl hl (by decide) rfl (fun ls hl => ?_)
  exact hb4 K _ _ _ _ _ _ hF hP hD hS (lv_sub hl [2, 3, 1, 0] rfl)

set_option maxHeartbeats 8000000 in
set_option maxRecDepth 100000 in
theorem mX7_keepOnly (l : Launch) (G : va_G) (tt : Nat → ClassId) (sz : Nat) (K : Nat) (ah : Nat) (ah_words : Nat) (vh_words : Nat → Int64) (p1 : Int32) (ag2 : Nat) (ag2_words : Nat) (vg2_words : Nat → Int64) (RR : (Nat → Int64)) (hF : fX7_keepOnly K p1 vg2_words vh_words = some RR) : Met l yX7_keepOnly wsX7_keepOnly ({ frames := 1, cells := 0, slots := 0, locals := 23 } : Room) (zPre G (zTy tt) [.ref ah, .int p1, .ref ag2] sz [(ah, .inr (6, [.ref ah_words])), (ah_words, .inl (tt 1, 40, .inr (.inl vh_words))), (ag2, .inr (6, [.ref ag2_words])), (ag2_words, .inl (tt 1, 40, .inr (.inl vg2_words)))]) (va_Qv (fun u : (Nat → Int64) => u = RR) (zAt G (zTy tt) (va_A [(ah, .inr (6, [.ref ah_words])), (ah_words, .inl (tt 1, 40, .inr (.inl vh_words))), (ag2, .inr (6, [.ref ag2_words])), (ag2_words, .inl (tt 1, 40, .inr (.inl vg2_words)))] sz) (fun u : (Nat → Int64) => [(ah, .inr (6, [.ref ah_words])), (ah_words, .inl (tt 1, 40, .inr (.inl u))), (ag2, .inr (6, [.ref ag2_words])), (ag2_words, .inl (tt 1, 40, .inr (.inl vg2_words)))])) (va_A [(ah, .inr (6, [.ref ah_words])), (ah_words, .inl (tt 1, 40, .inr (.inl vh_words))), (ag2, .inr (6, [.ref ag2_words])), (ag2_words, .inl (tt 1, 40, .inr (.inl vg2_words)))] sz)) 0 0 (va_A [(ah, .inr (6, [.ref ah_words])), (ah_words, .inl (tt 1, 40, .inr (.inl vh_words))), (ag2, .inr (6, [.ref ag2_words])), (ag2_words, .inl (tt 1, 40, .inr (.inl vg2_words)))] sz) := by
  refine Met.ofW (cc := cX7_keepOnly) (maxL := 5) (ret := none) (by decide +kernel) rfl ?_
  intro p e s m args below meth c s₁ B hml hv
  obtain ⟨rfl, hsz, hP, hK, hD0, hN⟩ := hv
  have hx := B.exec
  have hb := B.bytes
  have hr := B.returns
  have hts := atoms_spec (ws := wsX7_keepOnly) B.pre
  have hown : s.vm.findClass RX7 = some m.cls := findClass_of_methodNamed B.named
  have hlocks := B.notSynchronized
  subst hsz
  have hD := hD0.self (sz := s.heap.size)
  generalize hAe : va_A [(ah, .inr (6, [.ref ah_words])), (ah_words, .inl (tt 1, 40, .inr (.inl vh_words))), (ag2, .inr (6, [.ref ag2_words])), (ag2_words, .inl (tt 1, 40, .inr (.inl vg2_words)))] s.heap.size = A at hD ⊢
  have hA : ∀ q : Nat, s.heap.size ≤ q → A q := fun q h => by rw [← hAe]; exact Or.inr h
  have hP : va_P G vwCl [(ah, .inr (6, [.ref ah_words])), (ah_words, .inl (tt 1, 40, .inr (.inl vh_words))), (ag2, .inr (6, [.ref ag2_words])), (ag2_words, .inl (tt 1, 40, .inr (.inl vg2_words)))] s.heap := hP
  have hiX7 : ∀ w ∈ wsX70, w ∈ wsX7_keepOnly := by decide +kernel
  have hl := lv_entry ([.ref ah, .int p1, .ref ag2]) (n := 5) (Nat.le_of_ble_eq_true rfl)
  rw [lg_entry_eq]
  generalize (lg_sl ([.ref ah, .int p1, .ref ag2]) ++ List.replicate (5 - (lg_sl ([.ref ah, .int p1, .ref ag2])).length) Slot.unset).toArray = ls at hl ⊢
  have hl : lv_has ls 5 [(0, .ref ah), (1, .int p1), (2, .ref ag2)] := hl
  have hb2 : ∀ (k2 : Nat) (x3 : Int32) (vh_words : Nat → Int64) (H : Heap) (locs : List Loc) (ls : Array Slot), fX7_keepOnly_2 K p1 vg2_words k2 x3 vh_words = some RR → va_P G vwCl [(ah, .inr (6, [.ref ah_words])), (ah_words, .inl (tt 1, 40, .inr (.inl vh_words))), (ag2, .inr (6, [.ref ag2_words])), (ag2_words, .inl (tt 1, 40, .inr (.inl vg2_words)))] H → va_D A [(ah, .inr (6, [.ref ah_words])), (ah_words, .inl (tt 1, 40, .inr (.inl vh_words))), (ag2, .inr (6, [.ref ag2_words])), (ag2_words, .inl (tt 1, 40, .inr (.inl vg2_words)))] → va_S A s.heap H locs → lv_has ls 5 [(0, .ref ah), (1, .int p1), (2, .ref ag2), (3, .int x3)] → W p l e (headSpec wsX7_keepOnly ({ frames := 1, cells := 0, slots := 0, locals := 23 } : Room)).room s m ([.ref ah, .int p1, .ref ag2] : List Value).toArray below meth c H locs 0 0 (MQ below (va_Qv (fun u : (Nat → Int64) => u = RR) (zAt G (zTy tt) A (fun u : (Nat → Int64) => [(ah, .inr (6, [.ref ah_words])), (ah_words, .inl (tt 1, 40, .inr (.inl u))), (ag2, .inr (6, [.ref ag2_words])), (ag2_words, .inl (tt 1, 40, .inr (.inl vg2_words)))])) A) ([.ref ah, .int p1, .ref ag2] : List Value).toArray s 0 0 A) (F0 m 2 ls []) := by
    intro k2
    induction k2 with
    | zero => intro x3 vh_words H locs ls hF; rw [fX7_keepOnly_2] at hF; cases hF
    | succ k2 ih2 =>
      have hb47 : ∀ (x3 : Int32) (vh_words : Nat → Int64) (H : Heap) (locs : List Loc) (ls : Array Slot), fX7_keepOnly_47 K p1 vg2_words (fX7_keepOnly_2 K p1 vg2_words k2) x3 vh_words = some RR → va_P G vwCl [(ah, .inr (6, [.ref ah_words])), (ah_words, .inl (tt 1, 40, .inr (.inl vh_words))), (ag2, .inr (6, [.ref ag2_words])), (ag2_words, .inl (tt 1, 40, .inr (.inl vg2_words)))] H → va_D A [(ah, .inr (6, [.ref ah_words])), (ah_words, .inl (tt 1, 40, .inr (.inl vh_words))), (ag2, .inr (6, [.ref ag2_words])), (ag2_words, .inl (tt 1, 40, .inr (.inl vg2_words)))] → va_S A s.heap H locs → lv_has ls 5 [(0, .ref ah), (1, .int p1), (2, .ref ag2), (3, .int x3)] → W p l e (headSpec wsX7_keepOnly ({ frames := 1, cells := 0, slots := 0, locals := 23 } : Room)).room s m ([.ref ah, .int p1, .ref ag2] : List Value).toArray below meth c H locs 0 0 (MQ below (va_Qv (fun u : (Nat → Int64) => u = RR) (zAt G (zTy tt) A (fun u : (Nat → Int64) => [(ah, .inr (6, [.ref ah_words])), (ah_words, .inl (tt 1, 40, .inr (.inl u))), (ag2, .inr (6, [.ref ag2_words])), (ag2_words, .inl (tt 1, 40, .inr (.inl vg2_words)))])) A) ([.ref ah, .int p1, .ref ag2] : List Value).toArray s 0 0 A) (F0 m 47 ls []) := by
        intro x3 vh_words H locs ls hF hP hD hS hl
        unfold fX7_keepOnly_47 at hF
        refine lv_iinc (v := (x3 + (1 : Int32))) (lv' := [(3, .int (x3 + (1 : Int32))), (0, .ref ah), (1, .int p1), (2, .ref ag2)]) hx hb dX7_keepOnly_47 hl (k := 3) rfl rfl (by decide) rfl (fun ls hl => ?_)
        refine lv_goto (tgt := 2) hx hb dX7_keepOnly_50 (by decide) ?_
        exact ih2 _ _ _ _ _ hF hP hD hS (lv_sub hl [1, 2, 3, 0] rfl)
      intro x3 vh_words H locs ls hF hP hD hS hl
      rw [fX7_keepOnly_2] at hF
      refine lv_iload_n hx hb dX7_keepOnly_2 rfl (lv_at hl 3 rfl) ?_
      refine lv_bipush (v := (8 : Int32)) hx hb dX7_keepOnly_3 (by decide) ?_
      refine lv_icmp_ge (tgt := 53) hx hb dX7_keepOnly_5 (by decide) (fun c_5 => ?_) (fun c_5 => ?_)
      · have hF := z_t c_5 hF
        have hPD : zPD G A [(ah, .inr (6, [.ref ah_words])), (ah_words, .inl (tt 1, 40, .inr (.inl vh_words))), (ag2, .inr (6, [.ref ag2_words])), (ag2_words, .inl (tt 1, 40, .inr (.inl vg2_words)))] H := ⟨hP.sub [0, 1, 2, 3] rfl, hD.sub [0, 1, 2, 3] (by decide +kernel) rfl⟩
        have hP9 := hPD.1
        have hD9 := hPD.2
        have hR := Option.some.inj hF
        exact W.vret hx hb hr (fun t ht hW => ⟨⟨(vh_words), rfl, (by subst hR; rfl), by rw [ht]; exact hP9, va_K.moved hW.alike hK, hD9⟩, hS.F ht⟩) hS.2.2 dX7_keepOnly_53
      · have hF := z_f c_5 hF
        refine lv_iload_n hx hb dX7_keepOnly_8 rfl (lv_at hl 1 rfl) ?_
        refine lv_bipush (v := (8 : Int32)) hx hb dX7_keepOnly_9 (by decide) ?_
        refine lv_imul hx hb dX7_keepOnly_11 ?_
        refine lv_iload_n hx hb dX7_keepOnly_12 rfl (lv_at hl 3 rfl) ?_
        refine lv_iadd hx hb dX7_keepOnly_13 ?_
        refine lv_istore (lv' := [(4, .int ((p1 * (8 : Int32)) + x3)), (0, .ref ah), (1, .int p1), (2, .ref ag2), (3, .int x3)]) hx hb dX7_keepOnly_14 hl (by decide) rfl (fun ls hl => ?_)
        refine lv_iload hx hb dX7_keepOnly_16 (lv_at hl 0 rfl) ?_
        refine lv_if_lt (tgt := 47) hx hb dX7_keepOnly_18 (by decide) (fun c_18 => ?_) (fun c_18 => ?_)
        · have hF := z_t c_18 hF
          exact hb47 _ _ _ _ _ hF hP hD hS (lv_sub hl [1, 2, 3, 4] rfl)
        · have hF := z_f c_18 hF
          refine lv_iload hx hb dX7_keepOnly_21 (lv_at hl 0 rfl) ?_
          refine lv_aload_n hx hb dX7_keepOnly_23 rfl (lv_at hl 1 rfl) ?_
          refine va_get (D := G) (ci := 6) (v := .ref ah_words) (C := RX7) (T := TX7) (N := 1) hx hb hts hiX7 hown hK hP 0 rfl rfl 0 (by decide) (hts (.fieldLink RX7 9 "LeapTables$Rows" "words" "[J") (List.mem_of_getElem? (i := 1) rfl)) (fun _ h9 => h9) rfl dX7_keepOnly_24 ?_
          refine va_alen (v := (40 : Int32)) hx hb hK hP 1 1 rfl rfl (by first | rfl | decide) dX7_keepOnly_27 ?_
          refine lv_icmp_ge (tgt := 47) hx hb dX7_keepOnly_28 (by decide) (fun c_28 => ?_) (fun c_28 => ?_)
          · have hF := z_t c_28 hF
            exact hb47 _ _ _ _ _ hF hP hD hS (lv_sub hl [1, 2, 3, 4] rfl)
          · have hF := z_f c_28 hF
            refine lv_aload_n hx hb dX7_keepOnly_31 rfl (lv_at hl 1 rfl) ?_
            refine va_get (D := G) (ci := 6) (v := .ref ah_words) (C := RX7) (T := TX7) (N := 1) hx hb hts hiX7 hown hK hP 0 rfl rfl 0 (by decide) (hts (.fieldLink RX7 9 "LeapTables$Rows" "words" "[J") (List.mem_of_getElem? (i := 1) rfl)) (fun _ h9 => h9) rfl dX7_keepOnly_32 ?_
            refine lv_iload hx hb dX7_keepOnly_35 (lv_at hl 0 rfl) ?_
            refine lv_dup2_11 hx hb dX7_keepOnly_37 rfl rfl ?_
            obtain ⟨h_38, hF⟩ := z_in hF
            refine va_lald hx hb hK hP 1 1 rfl rfl h_38 dX7_keepOnly_38 ?_
            refine lv_aload_n hx hb dX7_keepOnly_39 rfl (lv_at hl 3 rfl) ?_
            refine lv_iload_n hx hb dX7_keepOnly_40 rfl (lv_at hl 2 rfl) ?_
            refine lv_iload_n hx hb dX7_keepOnly_41 rfl (lv_at hl 4 rfl) ?_
            obtain ⟨q42, hc_42, hF⟩ := z_bind hF
            refine z_backl (wr := [(ah, .inr (6, [.ref ah_words])), (ah_words, .inl (tt 1, 40, .inr (.inl vh_words)))]) (z_goV (wc := [(ag2, .inr (6, [.ref ag2_words])), (ag2_words, .inl (tt 1, 40, .inr (.inl vg2_words)))]) (As := [.int p1, .int x3]) (rest := [.long (vh_words ((p1 * (8 : Int32)) + x3).toNatClampNeg), .int ((p1 * (8 : Int32)) + x3), .ref ah_words]) (ci := 6) ⟨hx, hb, hml, hown, hts⟩ hK hN hP hD (mX7_word l G tt H.size ag2 ag2_words vg2_words p1 x3 q42 hc_42) (cwV 2 hts gX7_keepOnly_X7_word rfl rfl rfl (by decide +kernel) ⟨Nat.le_of_ble_eq_true rfl, Nat.le_of_ble_eq_true rfl⟩) [2, 3] rfl (by decide +kernel) rfl rfl rfl hl.1 rfl (Nat.le_of_ble_eq_true rfl) dX7_keepOnly_42 ⟨Nat.zero_le _, Nat.zero_le _⟩) hP hD hS hA [2, 3] [0, 1] rfl rfl (by decide +kernel) (by decide +kernel) (fun r u H locs hw hP hD hS => ?_)
            replace hw := hw.symm; subst hw
            refine lv_land hx hb dX7_keepOnly_45 ?_
            obtain ⟨h_46, hF⟩ := z_in hF
            refine va_last hx hb hK hP hD hS 1 1 rfl rfl h_46 dX7_keepOnly_46 (fun H locs hP hD hS => ?_)
            exact hb47 _ _ _ _ _ hF hP hD hS (lv_sub hl [1, 2, 3, 4] rfl)
  obtain ⟨H, hHe⟩ : ∃ H : Heap, s.heap = H := ⟨_, rfl⟩
  have hS : va_S A s.heap H [] := by rw [← hHe]; exact va_S.rf
  rw [hHe] at hP ⊢
  unfold fX7_keepOnly at hF
  refine lv_iconst (v := (0 : Int32)) hx hb dX7_keepOnly_0 (by decide) ?_
  refine lv_istore_n (lv' := [(3, .int (0 : Int32)), (0, .ref ah), (1, .int p1), (2, .ref ag2)]) hx hb dX7_keepOnly_1 rfl hl (by decide) rfl (fun ls hl => ?_)
  exact hb2 K _ _ _ _ _ hF hP hD hS (lv_sub hl [1, 2, 3, 0] rfl)

set_option maxHeartbeats 8000000 in
set_option maxRecDepth 100000 in
theorem mX7_numbered (l : Launch) (G : va_G) (tt : Nat → ClassId) (sz : Nat) (K : Nat) (ah : Nat) (ah_words : Nat) (vh_words : Nat → Int64) (p1 : Int32) (p2 : Int32) (RR : Int32) (hF : fX7_numbered K vh_words p1 p2 = some RR) : Met l yX7_numbered wsX7_numbered ({ frames := 1, cells := 0, slots := 0, locals := 23 } : Room) (zPre G (zTy tt) [.ref ah, .int p1, .int p2] sz [(ah, .inr (6, [.ref ah_words])), (ah_words, .inl (tt 1, 40, .inr (.inl vh_words)))]) (va_Qi (fun (r : Int32) (_ : Unit) => r = RR) (zAt G (zTy tt) (va_A [(ah, .inr (6, [.ref ah_words])), (ah_words, .inl (tt 1, 40, .inr (.inl vh_words)))] sz) (fun _ : Unit => [(ah, .inr (6, [.ref ah_words])), (ah_words, .inl (tt 1, 40, .inr (.inl vh_words)))])) (va_A [(ah, .inr (6, [.ref ah_words])), (ah_words, .inl (tt 1, 40, .inr (.inl vh_words)))] sz)) 0 0 (va_A [(ah, .inr (6, [.ref ah_words])), (ah_words, .inl (tt 1, 40, .inr (.inl vh_words)))] sz) := by
  refine Met.ofW (cc := cX7_numbered) (maxL := 5) (ret := (some .int)) (by decide +kernel) rfl ?_
  intro p e s m args below meth c s₁ B hml hv
  obtain ⟨rfl, hsz, hP, hK, hD0, hN⟩ := hv
  have hx := B.exec
  have hb := B.bytes
  have hr := B.returns
  have hts := atoms_spec (ws := wsX7_numbered) B.pre
  have hown : s.vm.findClass RX7 = some m.cls := findClass_of_methodNamed B.named
  have hlocks := B.notSynchronized
  subst hsz
  have hD := hD0.self (sz := s.heap.size)
  generalize hAe : va_A [(ah, .inr (6, [.ref ah_words])), (ah_words, .inl (tt 1, 40, .inr (.inl vh_words)))] s.heap.size = A at hD ⊢
  have hA : ∀ q : Nat, s.heap.size ≤ q → A q := fun q h => by rw [← hAe]; exact Or.inr h
  have hP : va_P G vwCl [(ah, .inr (6, [.ref ah_words])), (ah_words, .inl (tt 1, 40, .inr (.inl vh_words)))] s.heap := hP
  have hl := lv_entry ([.ref ah, .int p1, .int p2]) (n := 5) (Nat.le_of_ble_eq_true rfl)
  rw [lg_entry_eq]
  generalize (lg_sl ([.ref ah, .int p1, .int p2]) ++ List.replicate (5 - (lg_sl ([.ref ah, .int p1, .int p2])).length) Slot.unset).toArray = ls at hl ⊢
  have hl : lv_has ls 5 [(0, .ref ah), (1, .int p1), (2, .int p2)] := hl
  have hb5 : ∀ (k5 : Nat) (x3 : Int32) (x4 : Int32) (H : Heap) (locs : List Loc) (ls : Array Slot), fX7_numbered_5 K vh_words p1 p2 k5 x3 x4 = some RR → va_P G vwCl [(ah, .inr (6, [.ref ah_words])), (ah_words, .inl (tt 1, 40, .inr (.inl vh_words)))] H → va_D A [(ah, .inr (6, [.ref ah_words])), (ah_words, .inl (tt 1, 40, .inr (.inl vh_words)))] → va_S A s.heap H locs → lv_has ls 5 [(0, .ref ah), (1, .int p1), (3, .int x3), (4, .int x4)] → W p l e (headSpec wsX7_numbered ({ frames := 1, cells := 0, slots := 0, locals := 23 } : Room)).room s m ([.ref ah, .int p1, .int p2] : List Value).toArray below meth c H locs 0 0 (MQ below (va_Qi (fun (r : Int32) (_ : Unit) => r = RR) (zAt G (zTy tt) A (fun _ : Unit => [(ah, .inr (6, [.ref ah_words])), (ah_words, .inl (tt 1, 40, .inr (.inl vh_words)))])) A) ([.ref ah, .int p1, .int p2] : List Value).toArray s 0 0 A) (F0 m 5 ls []) := by
    intro k5
    induction k5 with
    | zero => intro x3 x4 H locs ls hF; rw [fX7_numbered_5] at hF; cases hF
    | succ k5 ih5 =>
      have hb33 : ∀ (x3 : Int32) (x4 : Int32) (H : Heap) (locs : List Loc) (ls : Array Slot), fX7_numbered_33 K vh_words p1 p2 (fX7_numbered_5 K vh_words p1 p2 k5) x3 x4 = some RR → va_P G vwCl [(ah, .inr (6, [.ref ah_words])), (ah_words, .inl (tt 1, 40, .inr (.inl vh_words)))] H → va_D A [(ah, .inr (6, [.ref ah_words])), (ah_words, .inl (tt 1, 40, .inr (.inl vh_words)))] → va_S A s.heap H locs → lv_has ls 5 [(0, .ref ah), (1, .int p1), (3, .int x3), (4, .int x4)] → W p l e (headSpec wsX7_numbered ({ frames := 1, cells := 0, slots := 0, locals := 23 } : Room)).room s m ([.ref ah, .int p1, .int p2] : List Value).toArray below meth c H locs 0 0 (MQ below (va_Qi (fun (r : Int32) (_ : Unit) => r = RR) (zAt G (zTy tt) A (fun _ : Unit => [(ah, .inr (6, [.ref ah_words])), (ah_words, .inl (tt 1, 40, .inr (.inl vh_words)))])) A) ([.ref ah, .int p1, .int p2] : List Value).toArray s 0 0 A) (F0 m 33 ls []) := by
        intro x3 x4 H locs ls hF hP hD hS hl
        unfold fX7_numbered_33 at hF
        refine lv_iinc (v := (x4 + (1 : Int32))) (lv' := [(4, .int (x4 + (1 : Int32))), (0, .ref ah), (1, .int p1), (3, .int x3)]) hx hb dX7_numbered_33 hl (k := 3) rfl rfl (by decide) rfl (fun ls hl => ?_)
        refine lv_goto (tgt := 5) hx hb dX7_numbered_36 (by decide) ?_
        exact ih5 _ _ _ _ _ hF hP hD hS (lv_sub hl [1, 2, 3, 0] rfl)
      intro x3 x4 H locs ls hF hP hD hS hl
      rw [fX7_numbered_5] at hF
      refine lv_iload hx hb dX7_numbered_5 (lv_at hl 3 rfl) ?_
      refine lv_sipush (v := (512 : Int32)) hx hb dX7_numbered_7 (by decide) ?_
      refine lv_icmp_ge (tgt := 39) hx hb dX7_numbered_10 (by decide) (fun c_10 => ?_) (fun c_10 => ?_)
      · have hF := z_t c_10 hF
        refine lv_iconst (v := (0 : Int32)) hx hb dX7_numbered_39 (by decide) ?_
        have hPD : zPD G A [(ah, .inr (6, [.ref ah_words])), (ah_words, .inl (tt 1, 40, .inr (.inl vh_words)))] H := ⟨hP.sub [0, 1] rfl, hD.sub [0, 1] (by decide +kernel) rfl⟩
        have hP9 := hPD.1
        have hD9 := hPD.2
        have hR := Option.some.inj hF
        exact W.iret (v := (0 : Int32)) hx hb hr (fun t ht hW => ⟨⟨(0 : Int32), (), rfl, (by subst hR; rfl), by rw [ht]; exact hP9, va_K.moved hW.alike hK, hD9⟩, hS.F ht⟩) hS.2.2 dX7_numbered_40
      · have hF := z_f c_10 hF
        refine lv_aload_n hx hb dX7_numbered_13 rfl (lv_at hl 0 rfl) ?_
        refine lv_iload_n hx hb dX7_numbered_14 rfl (lv_at hl 1 rfl) ?_
        refine lv_iload hx hb dX7_numbered_15 (lv_at hl 3 rfl) ?_
        obtain ⟨q17, hc_17, hF⟩ := z_bind hF
        refine z_backi (wr := []) (z_goV (wc := [(ah, .inr (6, [.ref ah_words])), (ah_words, .inl (tt 1, 40, .inr (.inl vh_words)))]) (As := [.int p1, .int x4]) (rest := []) (ci := 6) ⟨hx, hb, hml, hown, hts⟩ hK hN hP hD (mX7_has l G tt H.size ah ah_words vh_words p1 x4 q17 hc_17) (cwV 2 hts gX7_numbered_X7_has rfl rfl rfl (by decide +kernel) ⟨Nat.le_of_ble_eq_true rfl, Nat.le_of_ble_eq_true rfl⟩) [0, 1] rfl (by decide +kernel) rfl rfl rfl hl.1 rfl (Nat.le_of_ble_eq_true rfl) dX7_numbered_17 ⟨Nat.zero_le _, Nat.zero_le _⟩) hP hD hS hA [0, 1] [] rfl rfl (by decide +kernel) (by decide +kernel) (fun r u H locs hw hP hD hS => ?_)
        replace hw := hw.symm; subst hw
        refine lv_if_eq (tgt := 33) hx hb dX7_numbered_20 (by decide) (fun c_20 => ?_) (fun c_20 => ?_)
        · have hF := z_t c_20 hF
          exact hb33 _ _ _ _ _ hF hP hD hS (lv_sub hl [0, 1, 2, 3] rfl)
        · have hF := z_f c_20 hF
          refine lv_iload_n hx hb dX7_numbered_23 rfl (lv_at hl 2 rfl) ?_
          refine lv_if_ne (tgt := 30) hx hb dX7_numbered_24 (by decide) (fun c_24 => ?_) (fun c_24 => ?_)
          · have hF := z_f c_24 hF
            refine lv_iinc (v := (x3 + (-1 : Int32))) (lv' := [(3, .int (x3 + (-1 : Int32))), (0, .ref ah), (1, .int p1), (4, .int x4)]) hx hb dX7_numbered_30 hl (k := 2) rfl rfl (by decide) rfl (fun ls hl => ?_)
            exact hb33 _ _ _ _ _ hF hP hD hS (lv_sub hl [1, 2, 0, 3] rfl)
          · have hF := z_t c_24 hF
            refine lv_iload hx hb dX7_numbered_27 (lv_at hl 3 rfl) ?_
            have hPD : zPD G A [(ah, .inr (6, [.ref ah_words])), (ah_words, .inl (tt 1, 40, .inr (.inl vh_words)))] H := ⟨hP.sub [0, 1] rfl, hD.sub [0, 1] (by decide +kernel) rfl⟩
            have hP9 := hPD.1
            have hD9 := hPD.2
            have hR := Option.some.inj hF
            exact W.iret (v := x4) hx hb hr (fun t ht hW => ⟨⟨x4, (), rfl, (by subst hR; rfl), by rw [ht]; exact hP9, va_K.moved hW.alike hK, hD9⟩, hS.F ht⟩) hS.2.2 dX7_numbered_29
  obtain ⟨H, hHe⟩ : ∃ H : Heap, s.heap = H := ⟨_, rfl⟩
  have hS : va_S A s.heap H [] := by rw [← hHe]; exact va_S.rf
  rw [hHe] at hP ⊢
  unfold fX7_numbered at hF
  refine lv_iload_n hx hb dX7_numbered_0 rfl (lv_at hl 2 rfl) ?_
  refine lv_istore_n (lv' := [(3, .int p2), (0, .ref ah), (1, .int p1), (2, .int p2)]) hx hb dX7_numbered_1 rfl hl (by decide) rfl (fun ls hl => ?_)
  refine lv_iconst (v := (0 : Int32)) hx hb dX7_numbered_2 (by decide) ?_
  refine lv_istore (lv' := [(4, .int (0 : Int32)), (3, .int p2), (0, .ref ah), (1, .int p1), (2, .int p2)]) hx hb dX7_numbered_3 hl (by decide) rfl (fun ls hl => ?_)
  exact hb5 K _ _ _ _ _ hF hP hD hS (lv_sub hl [2, 3, 1, 0] rfl)
