/-! Cover and Tree -/
set_option maxHeartbeats 8000000 in
set_option maxRecDepth 100000 in
theorem mX3_times (l : Launch) (G : va_G) (tt : Nat → ClassId) (sz : Nat) (p0 : Int64) (p2 : Int32) (RR : Int64) (hF : fX3_times p0 p2 = some RR) : Met l yX3_times wsX3_times ({ frames := 0, cells := 0, slots := 0, locals := 0 } : Room) (zPre G (zTy tt) [.long p0, .int p2] sz []) (va_Ql (fun (r : Int64) (_ : Unit) => r = RR) (zAt G (zTy tt) (va_A [] sz) (fun _ : Unit => [])) (va_A [] sz)) 0 0 (va_A [] sz) := by
  refine Met.ofW (cc := cX3_times) (maxL := 3) (ret := (some .long)) (by decide +kernel) rfl ?_
  intro p e s m args below meth c s₁ B hml hv
  obtain ⟨rfl, hsz, hP, hK, hD0, hN⟩ := hv
  have hx := B.exec
  have hb := B.bytes
  have hr := B.returns
  have hts := atoms_spec (ws := wsX3_times) B.pre
  have hown : s.vm.findClass RX3 = some m.cls := findClass_of_methodNamed B.named
  have hlocks := B.notSynchronized
  subst hsz
  have hD := hD0.self (sz := s.heap.size)
  generalize hAe : va_A [] s.heap.size = A at hD ⊢
  have hA : ∀ q : Nat, s.heap.size ≤ q → A q := fun q h => by rw [← hAe]; exact Or.inr h
  have hP : va_P G vwCl [] s.heap := hP
  have hl := lv_entry ([.long p0, .int p2]) (n := 3) (Nat.le_of_ble_eq_true rfl)
  rw [lg_entry_eq]
  generalize (lg_sl ([.long p0, .int p2]) ++ List.replicate (3 - (lg_sl ([.long p0, .int p2])).length) Slot.unset).toArray = ls at hl ⊢
  have hl : lv_has ls 3 [(0, .long p0), (2, .int p2)] := hl
  obtain ⟨H, hHe⟩ : ∃ H : Heap, s.heap = H := ⟨_, rfl⟩
  have hS : va_S A s.heap H [] := by rw [← hHe]; exact va_S.rf
  rw [hHe] at hP ⊢
  unfold fX3_times at hF
  refine lv_iload_n hx hb dX3_times_0 rfl (lv_at hl 1 rfl) ?_
  refine lv_if_ne (tgt := 6) hx hb dX3_times_1 (by decide) (fun c_1 => ?_) (fun c_1 => ?_)
  · have hF := z_f c_1 hF
    refine lv_lload_n hx hb dX3_times_6 rfl (lv_at hl 0 rfl) ?_
    refine lv_ldc2 (v := (9223372036854775807 : Int64)) hx hb hown (hts (.constantLong RX3 41 (9223372036854775807)) (List.mem_of_getElem? (i := 1) rfl)) dX3_times_7 ?_
    refine lv_iload_n hx hb dX3_times_10 rfl (lv_at hl 1 rfl) ?_
    refine lv_i2l hx hb dX3_times_11 rfl ?_
    obtain ⟨h_12, hF⟩ := z_neL hF
    refine lv_ldiv hx hb dX3_times_12 h_12 ?_
    refine W.lcmp hx hb dX3_times_13 ?_
    refine lv_if_le (tgt := 23) hx hb dX3_times_14 (by decide) (fun c_14 => ?_) (fun c_14 => ?_)
    · have hF := z_t c_14 hF
      refine lv_lload_n hx hb dX3_times_23 rfl (lv_at hl 0 rfl) ?_
      refine lv_iload_n hx hb dX3_times_24 rfl (lv_at hl 1 rfl) ?_
      refine lv_i2l hx hb dX3_times_25 rfl ?_
      refine lv_lmul hx hb dX3_times_26 ?_
      have hPD : zPD G A [] H := ⟨hP.sub [] rfl, hD.sub [] (by decide +kernel) rfl⟩
      have hP9 := hPD.1
      have hD9 := hPD.2
      have hR := Option.some.inj hF
      exact W.lret (v := (p0 * (p2.toInt64))) hx hb hr (fun t ht hW => ⟨⟨(p0 * (p2.toInt64)), (), rfl, (by subst hR; rfl), by rw [ht]; exact hP9, va_K.moved hW.alike hK, hD9⟩, hS.F ht⟩) hS.2.2 dX3_times_27
    · have hF := z_f c_14 hF
      refine lv_ldc2 (v := (9223372036854775807 : Int64)) hx hb hown (hts (.constantLong RX3 41 (9223372036854775807)) (List.mem_of_getElem? (i := 1) rfl)) dX3_times_17 ?_
      refine lv_goto (tgt := 27) hx hb dX3_times_20 (by decide) ?_
      have hPD : zPD G A [] H := ⟨hP.sub [] rfl, hD.sub [] (by decide +kernel) rfl⟩
      have hP9 := hPD.1
      have hD9 := hPD.2
      have hR := Option.some.inj hF
      exact W.lret (v := (9223372036854775807 : Int64)) hx hb hr (fun t ht hW => ⟨⟨(9223372036854775807 : Int64), (), rfl, (by subst hR; rfl), by rw [ht]; exact hP9, va_K.moved hW.alike hK, hD9⟩, hS.F ht⟩) hS.2.2 dX3_times_27
  · have hF := z_t c_1 hF
    refine lv_lconst (v := (0 : Int64)) hx hb dX3_times_4 (by decide) ?_
    have hPD : zPD G A [] H := ⟨hP.sub [] rfl, hD.sub [] (by decide +kernel) rfl⟩
    have hP9 := hPD.1
    have hD9 := hPD.2
    have hR := Option.some.inj hF
    exact W.lret (v := (0 : Int64)) hx hb hr (fun t ht hW => ⟨⟨(0 : Int64), (), rfl, (by subst hR; rfl), by rw [ht]; exact hP9, va_K.moved hW.alike hK, hD9⟩, hS.F ht⟩) hS.2.2 dX3_times_5

set_option maxHeartbeats 8000000 in
set_option maxRecDepth 100000 in
theorem mX3_sizeOf (l : Launch) (G : va_G) (tt : Nat → ClassId) (sz : Nat) (K : Nat) (p0 : Int32) (ag1 : Nat) (ag1_words : Nat) (vg1_words : Nat → Int64) (RR : Int32) (hF : fX3_sizeOf K p0 vg1_words = some RR) : Met l yX3_sizeOf wsX3_sizeOf ({ frames := 3, cells := 0, slots := 0, locals := 69 } : Room) (zPre G (zTy tt) [.int p0, .ref ag1] sz [(ag1, .inr (6, [.ref ag1_words])), (ag1_words, .inl (tt 1, 40, .inr (.inl vg1_words)))]) (va_Qi (fun (r : Int32) (_ : Unit) => r = RR) (zAt G (zTy tt) (va_A [(ag1, .inr (6, [.ref ag1_words])), (ag1_words, .inl (tt 1, 40, .inr (.inl vg1_words)))] sz) (fun _ : Unit => [(ag1, .inr (6, [.ref ag1_words])), (ag1_words, .inl (tt 1, 40, .inr (.inl vg1_words)))])) (va_A [(ag1, .inr (6, [.ref ag1_words])), (ag1_words, .inl (tt 1, 40, .inr (.inl vg1_words)))] sz)) 0 0 (va_A [(ag1, .inr (6, [.ref ag1_words])), (ag1_words, .inl (tt 1, 40, .inr (.inl vg1_words)))] sz) := by
  refine Met.ofW (cc := cX3_sizeOf) (maxL := 4) (ret := (some .int)) (by decide +kernel) rfl ?_
  intro p e s m args below meth c s₁ B hml hv
  obtain ⟨rfl, hsz, hP, hK, hD0, hN⟩ := hv
  have hx := B.exec
  have hb := B.bytes
  have hr := B.returns
  have hts := atoms_spec (ws := wsX3_sizeOf) B.pre
  have hown : s.vm.findClass RX3 = some m.cls := findClass_of_methodNamed B.named
  have hlocks := B.notSynchronized
  subst hsz
  have hD := hD0.self (sz := s.heap.size)
  generalize hAe : va_A [(ag1, .inr (6, [.ref ag1_words])), (ag1_words, .inl (tt 1, 40, .inr (.inl vg1_words)))] s.heap.size = A at hD ⊢
  have hA : ∀ q : Nat, s.heap.size ≤ q → A q := fun q h => by rw [← hAe]; exact Or.inr h
  have hP : va_P G vwCl [(ag1, .inr (6, [.ref ag1_words])), (ag1_words, .inl (tt 1, 40, .inr (.inl vg1_words)))] s.heap := hP
  have hl := lv_entry ([.int p0, .ref ag1]) (n := 4) (Nat.le_of_ble_eq_true rfl)
  rw [lg_entry_eq]
  generalize (lg_sl ([.int p0, .ref ag1]) ++ List.replicate (4 - (lg_sl ([.int p0, .ref ag1])).length) Slot.unset).toArray = ls at hl ⊢
  have hl : lv_has ls 4 [(0, .int p0), (1, .ref ag1)] := hl
  have hb4 : ∀ (k4 : Nat) (x2 : Int32) (x3 : Int32) (H : Heap) (locs : List Loc) (ls : Array Slot), fX3_sizeOf_4 K p0 vg1_words k4 x2 x3 = some RR → va_P G vwCl [(ag1, .inr (6, [.ref ag1_words])), (ag1_words, .inl (tt 1, 40, .inr (.inl vg1_words)))] H → va_D A [(ag1, .inr (6, [.ref ag1_words])), (ag1_words, .inl (tt 1, 40, .inr (.inl vg1_words)))] → va_S A s.heap H locs → lv_has ls 4 [(0, .int p0), (1, .ref ag1), (2, .int x2), (3, .int x3)] → W p l e (headSpec wsX3_sizeOf ({ frames := 3, cells := 0, slots := 0, locals := 69 } : Room)).room s m ([.int p0, .ref ag1] : List Value).toArray below meth c H locs 0 0 (MQ below (va_Qi (fun (r : Int32) (_ : Unit) => r = RR) (zAt G (zTy tt) A (fun _ : Unit => [(ag1, .inr (6, [.ref ag1_words])), (ag1_words, .inl (tt 1, 40, .inr (.inl vg1_words)))])) A) ([.int p0, .ref ag1] : List Value).toArray s 0 0 A) (F0 m 4 ls []) := by
    intro k4
    induction k4 with
    | zero => intro x2 x3 H locs ls hF; rw [fX3_sizeOf_4] at hF; cases hF
    | succ k4 ih4 =>
      have hb37 : ∀ (x3 : Int32) (t0 : Int32) (t1 : Int32) (H : Heap) (locs : List Loc) (ls : Array Slot), fX3_sizeOf_37 K p0 vg1_words (fX3_sizeOf_4 K p0 vg1_words k4) x3 t0 t1 = some RR → va_P G vwCl [(ag1, .inr (6, [.ref ag1_words])), (ag1_words, .inl (tt 1, 40, .inr (.inl vg1_words)))] H → va_D A [(ag1, .inr (6, [.ref ag1_words])), (ag1_words, .inl (tt 1, 40, .inr (.inl vg1_words)))] → va_S A s.heap H locs → lv_has ls 4 [(0, .int p0), (1, .ref ag1), (3, .int x3)] → W p l e (headSpec wsX3_sizeOf ({ frames := 3, cells := 0, slots := 0, locals := 69 } : Room)).room s m ([.int p0, .ref ag1] : List Value).toArray below meth c H locs 0 0 (MQ below (va_Qi (fun (r : Int32) (_ : Unit) => r = RR) (zAt G (zTy tt) A (fun _ : Unit => [(ag1, .inr (6, [.ref ag1_words])), (ag1_words, .inl (tt 1, 40, .inr (.inl vg1_words)))])) A) ([.int p0, .ref ag1] : List Value).toArray s 0 0 A) (F0 m 37 ls [.int t1, .int t0]) := by
        intro x3 t0 t1 H locs ls hF hP hD hS hl
        unfold fX3_sizeOf_37 at hF
        refine lv_iadd hx hb dX3_sizeOf_37 ?_
        refine lv_istore_n (lv' := [(2, .int (t0 + t1)), (0, .int p0), (1, .ref ag1), (3, .int x3)]) hx hb dX3_sizeOf_38 rfl hl (by decide) rfl (fun ls hl => ?_)
        refine lv_iinc (v := (x3 + (1 : Int32))) (lv' := [(3, .int (x3 + (1 : Int32))), (2, .int (t0 + t1)), (0, .int p0), (1, .ref ag1)]) hx hb dX3_sizeOf_39 hl (k := 3) rfl rfl (by decide) rfl (fun ls hl => ?_)
        refine lv_goto (tgt := 4) hx hb dX3_sizeOf_42 (by decide) ?_
        exact ih4 _ _ _ _ _ hF hP hD hS (lv_sub hl [2, 3, 1, 0] rfl)
      have hb36 : ∀ (x3 : Int32) (t0 : Int32) (H : Heap) (locs : List Loc) (ls : Array Slot), fX3_sizeOf_36 K p0 vg1_words (fX3_sizeOf_4 K p0 vg1_words k4) x3 t0 = some RR → va_P G vwCl [(ag1, .inr (6, [.ref ag1_words])), (ag1_words, .inl (tt 1, 40, .inr (.inl vg1_words)))] H → va_D A [(ag1, .inr (6, [.ref ag1_words])), (ag1_words, .inl (tt 1, 40, .inr (.inl vg1_words)))] → va_S A s.heap H locs → lv_has ls 4 [(0, .int p0), (1, .ref ag1), (3, .int x3)] → W p l e (headSpec wsX3_sizeOf ({ frames := 3, cells := 0, slots := 0, locals := 69 } : Room)).room s m ([.int p0, .ref ag1] : List Value).toArray below meth c H locs 0 0 (MQ below (va_Qi (fun (r : Int32) (_ : Unit) => r = RR) (zAt G (zTy tt) A (fun _ : Unit => [(ag1, .inr (6, [.ref ag1_words])), (ag1_words, .inl (tt 1, 40, .inr (.inl vg1_words)))])) A) ([.int p0, .ref ag1] : List Value).toArray s 0 0 A) (F0 m 36 ls [.int t0]) := by
        intro x3 t0 H locs ls hF hP hD hS hl
        unfold fX3_sizeOf_36 at hF
        refine lv_iconst (v := (0 : Int32)) hx hb dX3_sizeOf_36 (by decide) ?_
        exact hb37 _ _ _ _ _ _ hF hP hD hS (lv_sub hl [0, 1, 2] rfl)
      intro x2 x3 H locs ls hF hP hD hS hl
      rw [fX3_sizeOf_4] at hF
      refine lv_iload_n hx hb dX3_sizeOf_4 rfl (lv_at hl 3 rfl) ?_
      refine lv_sipush (v := (512 : Int32)) hx hb dX3_sizeOf_5 (by decide) ?_
      refine lv_icmp_ge (tgt := 45) hx hb dX3_sizeOf_8 (by decide) (fun c_8 => ?_) (fun c_8 => ?_)
      · have hF := z_t c_8 hF
        refine lv_iload_n hx hb dX3_sizeOf_45 rfl (lv_at hl 2 rfl) ?_
        have hPD : zPD G A [(ag1, .inr (6, [.ref ag1_words])), (ag1_words, .inl (tt 1, 40, .inr (.inl vg1_words)))] H := ⟨hP.sub [0, 1] rfl, hD.sub [0, 1] (by decide +kernel) rfl⟩
        have hP9 := hPD.1
        have hD9 := hPD.2
        have hR := Option.some.inj hF
        exact W.iret (v := x2) hx hb hr (fun t ht hW => ⟨⟨x2, (), rfl, (by subst hR; rfl), by rw [ht]; exact hP9, va_K.moved hW.alike hK, hD9⟩, hS.F ht⟩) hS.2.2 dX3_sizeOf_46
      · have hF := z_f c_8 hF
        refine lv_iload_n hx hb dX3_sizeOf_11 rfl (lv_at hl 2 rfl) ?_
        refine lv_aload_n hx hb dX3_sizeOf_12 rfl (lv_at hl 1 rfl) ?_
        refine lv_iload_n hx hb dX3_sizeOf_13 rfl (lv_at hl 0 rfl) ?_
        obtain ⟨q14, hc_14, hF⟩ := z_bind hF
        refine z_backi (wr := [(ag1, .inr (6, [.ref ag1_words])), (ag1_words, .inl (tt 1, 40, .inr (.inl vg1_words)))]) (z_goS (wc := []) (As := [.int p0]) (rest := [.ref ag1, .int x2]) ⟨hx, hb, hml, hown, hts⟩ hK hN hP hD (mX1_table l G tt H.size p0 q14 hc_14) (va_cwS 1 hts gX3_sizeOf_X1_table rfl rfl rfl (by decide +kernel) ⟨Nat.le_of_ble_eq_true rfl, Nat.le_of_ble_eq_true rfl⟩) [] rfl (by decide +kernel) rfl hl.1 rfl (Nat.le_of_ble_eq_true rfl) dX3_sizeOf_14 ⟨Nat.zero_le _, Nat.zero_le _⟩) hP hD hS hA [] [0, 1] rfl rfl (by decide +kernel) (by decide +kernel) (fun r u H locs hw hP hD hS => ?_)
        replace hw := hw.symm; subst hw
        refine lv_iload_n hx hb dX3_sizeOf_17 rfl (lv_at hl 3 rfl) ?_
        obtain ⟨q18, hc_18, hF⟩ := z_bind hF
        refine z_backi (wr := []) (z_goV (wc := [(ag1, .inr (6, [.ref ag1_words])), (ag1_words, .inl (tt 1, 40, .inr (.inl vg1_words)))]) (As := [.int q14, .int x3]) (rest := [.int x2]) (ci := 6) ⟨hx, hb, hml, hown, hts⟩ hK hN hP hD (mX7_has l G tt H.size ag1 ag1_words vg1_words q14 x3 q18 hc_18) (cwV 2 hts gX3_sizeOf_X7_has rfl rfl rfl (by decide +kernel) ⟨Nat.le_of_ble_eq_true rfl, Nat.le_of_ble_eq_true rfl⟩) [0, 1] rfl (by decide +kernel) rfl rfl rfl hl.1 rfl (Nat.le_of_ble_eq_true rfl) dX3_sizeOf_18 ⟨Nat.zero_le _, Nat.zero_le _⟩) hP hD hS hA [0, 1] [] rfl rfl (by decide +kernel) (by decide +kernel) (fun r u H locs hw hP hD hS => ?_)
        replace hw := hw.symm; subst hw
        refine lv_if_eq (tgt := 36) hx hb dX3_sizeOf_21 (by decide) (fun c_21 => ?_) (fun c_21 => ?_)
        · have hF := z_t c_21 hF
          exact hb36 _ _ _ _ _ hF hP hD hS (lv_sub hl [0, 1, 3] rfl)
        · have hF := z_f c_21 hF
          refine lv_iload_n hx hb dX3_sizeOf_24 rfl (lv_at hl 0 rfl) ?_
          refine lv_iload_n hx hb dX3_sizeOf_25 rfl (lv_at hl 3 rfl) ?_
          obtain ⟨q26, hc_26, hF⟩ := z_bind hF
          refine z_backi (wr := [(ag1, .inr (6, [.ref ag1_words])), (ag1_words, .inl (tt 1, 40, .inr (.inl vg1_words)))]) (z_goS (wc := []) (As := [.int p0, .int x3]) (rest := [.int x2]) ⟨hx, hb, hml, hown, hts⟩ hK hN hP hD (mX1_agrees l G tt H.size K p0 x3 q26 hc_26) (va_cwS 2 hts gX3_sizeOf_X1_agrees rfl rfl rfl (by decide +kernel) ⟨Nat.le_of_ble_eq_true rfl, Nat.le_of_ble_eq_true rfl⟩) [] rfl (by decide +kernel) rfl hl.1 rfl (Nat.le_of_ble_eq_true rfl) dX3_sizeOf_26 ⟨Nat.zero_le _, Nat.zero_le _⟩) hP hD hS hA [] [0, 1] rfl rfl (by decide +kernel) (by decide +kernel) (fun r u H locs hw hP hD hS => ?_)
          replace hw := hw.symm; subst hw
          refine lv_if_eq (tgt := 36) hx hb dX3_sizeOf_29 (by decide) (fun c_29 => ?_) (fun c_29 => ?_)
          · have hF := z_t c_29 hF
            exact hb36 _ _ _ _ _ hF hP hD hS (lv_sub hl [0, 1, 3] rfl)
          · have hF := z_f c_29 hF
            refine lv_iconst (v := (1 : Int32)) hx hb dX3_sizeOf_32 (by decide) ?_
            refine lv_goto (tgt := 37) hx hb dX3_sizeOf_33 (by decide) ?_
            exact hb37 _ _ _ _ _ _ hF hP hD hS (lv_sub hl [0, 1, 3] rfl)
  obtain ⟨H, hHe⟩ : ∃ H : Heap, s.heap = H := ⟨_, rfl⟩
  have hS : va_S A s.heap H [] := by rw [← hHe]; exact va_S.rf
  rw [hHe] at hP ⊢
  unfold fX3_sizeOf at hF
  refine lv_iconst (v := (0 : Int32)) hx hb dX3_sizeOf_0 (by decide) ?_
  refine lv_istore_n (lv' := [(2, .int (0 : Int32)), (0, .int p0), (1, .ref ag1)]) hx hb dX3_sizeOf_1 rfl hl (by decide) rfl (fun ls hl => ?_)
  refine lv_iconst (v := (0 : Int32)) hx hb dX3_sizeOf_2 (by decide) ?_
  refine lv_istore_n (lv' := [(3, .int (0 : Int32)), (2, .int (0 : Int32)), (0, .int p0), (1, .ref ag1)]) hx hb dX3_sizeOf_3 rfl hl (by decide) rfl (fun ls hl => ?_)
  exact hb4 K _ _ _ _ _ hF hP hD hS (lv_sub hl [2, 3, 1, 0] rfl)

set_option maxHeartbeats 8000000 in
set_option maxRecDepth 100000 in
theorem mX3_weigh (l : Launch) (G : va_G) (tt : Nat → ClassId) (sz : Nat) (K : Nat) (ah : Nat) (ah_sizes : Nat) (ah_sizes_cells : Nat) (vh_sizes_cells : Nat → Int32) (vh_leastHalves : Int32) (vh_leastProduct : Int64) (ag1 : Nat) (ag1_codes : Nat) (ag1_codes_cells : Nat) (vg1_codes_cells : Nat → Int32) (vg1_size : Int32) (p2 : Int32) (RR : Int32 × Int64) (hF : fX3_weigh K vh_sizes_cells vg1_codes_cells vg1_size p2 vh_leastHalves vh_leastProduct = some RR) : Met l yX3_weigh wsX3_weigh ({ frames := 2, cells := 0, slots := 0, locals := 45 } : Room) (zPre G (zTy tt) [.ref ah, .ref ag1, .int p2] sz [(ah, .inr (2, [.ref ah_sizes, .int vh_leastHalves, .long vh_leastProduct])), (ah_sizes, .inr (5, [.ref ah_sizes_cells])), (ah_sizes_cells, .inl (tt 0, 5, .inl vh_sizes_cells)), (ag1, .inr (1, [.ref ag1_codes, .int vg1_size])), (ag1_codes, .inr (5, [.ref ag1_codes_cells])), (ag1_codes_cells, .inl (tt 0, 5, .inl vg1_codes_cells))]) (va_Qv (fun u : Int32 × Int64 => u = RR) (zAt G (zTy tt) (va_A [(ah, .inr (2, [.ref ah_sizes, .int vh_leastHalves, .long vh_leastProduct])), (ah_sizes, .inr (5, [.ref ah_sizes_cells])), (ah_sizes_cells, .inl (tt 0, 5, .inl vh_sizes_cells)), (ag1, .inr (1, [.ref ag1_codes, .int vg1_size])), (ag1_codes, .inr (5, [.ref ag1_codes_cells])), (ag1_codes_cells, .inl (tt 0, 5, .inl vg1_codes_cells))] sz) (fun u : Int32 × Int64 => [(ah, .inr (2, [.ref ah_sizes, .int u.1, .long u.2])), (ah_sizes, .inr (5, [.ref ah_sizes_cells])), (ah_sizes_cells, .inl (tt 0, 5, .inl vh_sizes_cells)), (ag1, .inr (1, [.ref ag1_codes, .int vg1_size])), (ag1_codes, .inr (5, [.ref ag1_codes_cells])), (ag1_codes_cells, .inl (tt 0, 5, .inl vg1_codes_cells))])) (va_A [(ah, .inr (2, [.ref ah_sizes, .int vh_leastHalves, .long vh_leastProduct])), (ah_sizes, .inr (5, [.ref ah_sizes_cells])), (ah_sizes_cells, .inl (tt 0, 5, .inl vh_sizes_cells)), (ag1, .inr (1, [.ref ag1_codes, .int vg1_size])), (ag1_codes, .inr (5, [.ref ag1_codes_cells])), (ag1_codes_cells, .inl (tt 0, 5, .inl vg1_codes_cells))] sz)) 0 0 (va_A [(ah, .inr (2, [.ref ah_sizes, .int vh_leastHalves, .long vh_leastProduct])), (ah_sizes, .inr (5, [.ref ah_sizes_cells])), (ah_sizes_cells, .inl (tt 0, 5, .inl vh_sizes_cells)), (ag1, .inr (1, [.ref ag1_codes, .int vg1_size])), (ag1_codes, .inr (5, [.ref ag1_codes_cells])), (ag1_codes_cells, .inl (tt 0, 5, .inl vg1_codes_cells))] sz) := by
  refine Met.ofW (cc := cX3_weigh) (maxL := 13) (ret := none) (by decide +kernel) rfl ?_
  intro p e s m args below meth c s₁ B hml hv
  obtain ⟨rfl, hsz, hP, hK, hD0, hN⟩ := hv
  have hx := B.exec
  have hb := B.bytes
  have hr := B.returns
  have hts := atoms_spec (ws := wsX3_weigh) B.pre
  have hown : s.vm.findClass RX3 = some m.cls := findClass_of_methodNamed B.named
  have hlocks := B.notSynchronized
  subst hsz
  have hD := hD0.self (sz := s.heap.size)
  generalize hAe : va_A [(ah, .inr (2, [.ref ah_sizes, .int vh_leastHalves, .long vh_leastProduct])), (ah_sizes, .inr (5, [.ref ah_sizes_cells])), (ah_sizes_cells, .inl (tt 0, 5, .inl vh_sizes_cells)), (ag1, .inr (1, [.ref ag1_codes, .int vg1_size])), (ag1_codes, .inr (5, [.ref ag1_codes_cells])), (ag1_codes_cells, .inl (tt 0, 5, .inl vg1_codes_cells))] s.heap.size = A at hD ⊢
  have hA : ∀ q : Nat, s.heap.size ≤ q → A q := fun q h => by rw [← hAe]; exact Or.inr h
  have hP : va_P G vwCl [(ah, .inr (2, [.ref ah_sizes, .int vh_leastHalves, .long vh_leastProduct])), (ah_sizes, .inr (5, [.ref ah_sizes_cells])), (ah_sizes_cells, .inl (tt 0, 5, .inl vh_sizes_cells)), (ag1, .inr (1, [.ref ag1_codes, .int vg1_size])), (ag1_codes, .inr (5, [.ref ag1_codes_cells])), (ag1_codes_cells, .inl (tt 0, 5, .inl vg1_codes_cells))] s.heap := hP
  have hiX2 : ∀ w ∈ wsX20, w ∈ wsX3_weigh := by decide +kernel
  have hiX3 : ∀ w ∈ wsX30, w ∈ wsX3_weigh := by decide +kernel
  have hl := lv_entry ([.ref ah, .ref ag1, .int p2]) (n := 13) (Nat.le_of_ble_eq_true rfl)
  rw [lg_entry_eq]
  generalize (lg_sl ([.ref ah, .ref ag1, .int p2]) ++ List.replicate (13 - (lg_sl ([.ref ah, .ref ag1, .int p2])).length) Slot.unset).toArray = ls at hl ⊢
  have hl : lv_has ls 13 [(0, .ref ah), (1, .ref ag1), (2, .int p2)] := hl
  have hb17 : ∀ (k17 : Nat) (x3 : Int32) (x4 : Int32) (x5 : Int64) (x7 : Int32) (x8 : Int32) (x9 : Int32) (vh_leastHalves : Int32) (vh_leastProduct : Int64) (H : Heap) (locs : List Loc) (ls : Array Slot), fX3_weigh_17 K vh_sizes_cells vg1_codes_cells vg1_size p2 k17 x3 x4 x5 x7 x8 x9 vh_leastHalves vh_leastProduct = some RR → va_P G vwCl [(ah, .inr (2, [.ref ah_sizes, .int vh_leastHalves, .long vh_leastProduct])), (ah_sizes, .inr (5, [.ref ah_sizes_cells])), (ah_sizes_cells, .inl (tt 0, 5, .inl vh_sizes_cells)), (ag1, .inr (1, [.ref ag1_codes, .int vg1_size])), (ag1_codes, .inr (5, [.ref ag1_codes_cells])), (ag1_codes_cells, .inl (tt 0, 5, .inl vg1_codes_cells))] H → va_D A [(ah, .inr (2, [.ref ah_sizes, .int vh_leastHalves, .long vh_leastProduct])), (ah_sizes, .inr (5, [.ref ah_sizes_cells])), (ah_sizes_cells, .inl (tt 0, 5, .inl vh_sizes_cells)), (ag1, .inr (1, [.ref ag1_codes, .int vg1_size])), (ag1_codes, .inr (5, [.ref ag1_codes_cells])), (ag1_codes_cells, .inl (tt 0, 5, .inl vg1_codes_cells))] → va_S A s.heap H locs → lv_has ls 13 [(0, .ref ah), (1, .ref ag1), (3, .int x3), (4, .int x4), (5, .long x5), (7, .int x7), (8, .int x8), (9, .int x9)] → W p l e (headSpec wsX3_weigh ({ frames := 2, cells := 0, slots := 0, locals := 45 } : Room)).room s m ([.ref ah, .ref ag1, .int p2] : List Value).toArray below meth c H locs 0 0 (MQ below (va_Qv (fun u : Int32 × Int64 => u = RR) (zAt G (zTy tt) A (fun u : Int32 × Int64 => [(ah, .inr (2, [.ref ah_sizes, .int u.1, .long u.2])), (ah_sizes, .inr (5, [.ref ah_sizes_cells])), (ah_sizes_cells, .inl (tt 0, 5, .inl vh_sizes_cells)), (ag1, .inr (1, [.ref ag1_codes, .int vg1_size])), (ag1_codes, .inr (5, [.ref ag1_codes_cells])), (ag1_codes_cells, .inl (tt 0, 5, .inl vg1_codes_cells))])) A) ([.ref ah, .ref ag1, .int p2] : List Value).toArray s 0 0 A) (F0 m 17 ls []) := by
    intro k17
    induction k17 with
    | zero => intro x3 x4 x5 x7 x8 x9 vh_leastHalves vh_leastProduct H locs ls hF; rw [fX3_weigh_17] at hF; cases hF
    | succ k17 ih17 =>
      have hb56 : ∀ (k56 : Nat) (x3 : Int32) (x4 : Int32) (x5 : Int64) (x7 : Int32) (x8 : Int32) (x9 : Int32) (x10 : Int32) (x11 : Int32) (x12 : Int32) (vh_leastHalves : Int32) (vh_leastProduct : Int64) (H : Heap) (locs : List Loc) (ls : Array Slot), fX3_weigh_56 K vh_sizes_cells vg1_codes_cells vg1_size p2 (fX3_weigh_17 K vh_sizes_cells vg1_codes_cells vg1_size p2 k17) k56 x3 x4 x5 x7 x8 x9 x10 x11 x12 vh_leastHalves vh_leastProduct = some RR → va_P G vwCl [(ah, .inr (2, [.ref ah_sizes, .int vh_leastHalves, .long vh_leastProduct])), (ah_sizes, .inr (5, [.ref ah_sizes_cells])), (ah_sizes_cells, .inl (tt 0, 5, .inl vh_sizes_cells)), (ag1, .inr (1, [.ref ag1_codes, .int vg1_size])), (ag1_codes, .inr (5, [.ref ag1_codes_cells])), (ag1_codes_cells, .inl (tt 0, 5, .inl vg1_codes_cells))] H → va_D A [(ah, .inr (2, [.ref ah_sizes, .int vh_leastHalves, .long vh_leastProduct])), (ah_sizes, .inr (5, [.ref ah_sizes_cells])), (ah_sizes_cells, .inl (tt 0, 5, .inl vh_sizes_cells)), (ag1, .inr (1, [.ref ag1_codes, .int vg1_size])), (ag1_codes, .inr (5, [.ref ag1_codes_cells])), (ag1_codes_cells, .inl (tt 0, 5, .inl vg1_codes_cells))] → va_S A s.heap H locs → lv_has ls 13 [(0, .ref ah), (1, .ref ag1), (3, .int x3), (4, .int x4), (5, .long x5), (7, .int x7), (8, .int x8), (9, .int x9), (10, .int x10), (11, .int x11), (12, .int x12)] → W p l e (headSpec wsX3_weigh ({ frames := 2, cells := 0, slots := 0, locals := 45 } : Room)).room s m ([.ref ah, .ref ag1, .int p2] : List Value).toArray below meth c H locs 0 0 (MQ below (va_Qv (fun u : Int32 × Int64 => u = RR) (zAt G (zTy tt) A (fun u : Int32 × Int64 => [(ah, .inr (2, [.ref ah_sizes, .int u.1, .long u.2])), (ah_sizes, .inr (5, [.ref ah_sizes_cells])), (ah_sizes_cells, .inl (tt 0, 5, .inl vh_sizes_cells)), (ag1, .inr (1, [.ref ag1_codes, .int vg1_size])), (ag1_codes, .inr (5, [.ref ag1_codes_cells])), (ag1_codes_cells, .inl (tt 0, 5, .inl vg1_codes_cells))])) A) ([.ref ah, .ref ag1, .int p2] : List Value).toArray s 0 0 A) (F0 m 56 ls []) := by
        intro k56
        induction k56 with
        | zero => intro x3 x4 x5 x7 x8 x9 x10 x11 x12 vh_leastHalves vh_leastProduct H locs ls hF; rw [fX3_weigh_56] at hF; cases hF
        | succ k56 ih56 =>
          intro x3 x4 x5 x7 x8 x9 x10 x11 x12 vh_leastHalves vh_leastProduct H locs ls hF hP hD hS hl
          rw [fX3_weigh_56] at hF
          refine lv_iload hx hb dX3_weigh_56 (lv_at hl 10 rfl) ?_
          refine lv_iload hx hb dX3_weigh_58 (lv_at hl 9 rfl) ?_
          refine lv_icmp_ge (tgt := 102) hx hb dX3_weigh_60 (by decide) (fun c_60 => ?_) (fun c_60 => ?_)
          · have hF := z_t c_60 hF
            refine lv_iinc (v := (x9 + (1 : Int32))) (lv' := [(9, .int (x9 + (1 : Int32))), (0, .ref ah), (1, .ref ag1), (3, .int x3), (4, .int x4), (5, .long x5), (7, .int x7), (8, .int x8), (10, .int x10), (11, .int x11), (12, .int x12)]) hx hb dX3_weigh_102 hl (k := 7) rfl rfl (by decide) rfl (fun ls hl => ?_)
            refine lv_goto (tgt := 17) hx hb dX3_weigh_105 (by decide) ?_
            exact ih17 _ _ _ _ _ _ _ _ _ _ _ hF hP hD hS (lv_sub hl [1, 2, 3, 4, 5, 6, 7, 0] rfl)
          · have hF := z_f c_60 hF
            refine lv_lload hx hb dX3_weigh_63 (lv_at hl 4 rfl) ?_
            refine lv_aload_n hx hb dX3_weigh_65 rfl (lv_at hl 0 rfl) ?_
            refine va_get (D := G) (ci := 2) (v := .ref ah_sizes) (C := RX3) (T := TX3) (N := 3) hx hb hts hiX3 hown hK hP 0 rfl rfl 0 (by decide) (hts (.fieldLink RX3 14 "LeapTables$Cover" "sizes" "LLeapTables$Ints;") (List.mem_of_getElem? (i := 1) rfl)) (fun _ h9 => h9) rfl dX3_weigh_66 ?_
            refine lv_iload hx hb dX3_weigh_69 (lv_at hl 7 rfl) ?_
            obtain ⟨q71, hc_71, hF⟩ := z_bind hF
            refine z_backi (wr := [(ah, .inr (2, [.ref ah_sizes, .int vh_leastHalves, .long vh_leastProduct])), (ag1, .inr (1, [.ref ag1_codes, .int vg1_size])), (ag1_codes, .inr (5, [.ref ag1_codes_cells])), (ag1_codes_cells, .inl (tt 0, 5, .inl vg1_codes_cells))]) (z_goV (wc := [(ah_sizes, .inr (5, [.ref ah_sizes_cells])), (ah_sizes_cells, .inl (tt 0, 5, .inl vh_sizes_cells))]) (As := [.int x9]) (rest := [.long x5]) (ci := 5) ⟨hx, hb, hml, hown, hts⟩ hK hN hP hD (mX6_at l G tt H.size 5 ah_sizes ah_sizes_cells vh_sizes_cells x9 q71 hc_71) (cwV 1 hts gX3_weigh_X6_at rfl rfl rfl (by decide +kernel) ⟨Nat.le_of_ble_eq_true rfl, Nat.le_of_ble_eq_true rfl⟩) [1, 2] rfl (by decide +kernel) rfl rfl rfl hl.1 rfl (Nat.le_of_ble_eq_true rfl) dX3_weigh_71 ⟨Nat.zero_le _, Nat.zero_le _⟩) hP hD hS hA [1, 2] [0, 3, 4, 5] rfl rfl (by decide +kernel) (by decide +kernel) (fun r u H locs hw hP hD hS => ?_)
            replace hw := hw.symm; subst hw
            obtain ⟨q74, hc_74, hF⟩ := z_bind hF
            refine z_backl (wr := [(ah, .inr (2, [.ref ah_sizes, .int vh_leastHalves, .long vh_leastProduct])), (ag1, .inr (1, [.ref ag1_codes, .int vg1_size])), (ag1_codes, .inr (5, [.ref ag1_codes_cells])), (ag1_codes_cells, .inl (tt 0, 5, .inl vg1_codes_cells)), (ah_sizes, .inr (5, [.ref ah_sizes_cells])), (ah_sizes_cells, .inl (tt 0, 5, .inl vh_sizes_cells))]) (z_goS (wc := []) (As := [.long x5, .int q71]) (rest := []) ⟨hx, hb, hml, hown, hts⟩ hK hN hP hD (mX3_times l G tt H.size x5 q71 q74 hc_74) (va_cwS 2 hts gX3_weigh_X3_times rfl rfl rfl (by decide +kernel) ⟨Nat.le_of_ble_eq_true rfl, Nat.le_of_ble_eq_true rfl⟩) [] rfl (by decide +kernel) rfl hl.1 rfl (Nat.le_of_ble_eq_true rfl) dX3_weigh_74 ⟨Nat.zero_le _, Nat.zero_le _⟩) hP hD hS hA [] [0, 1, 2, 3, 4, 5] rfl rfl (by decide +kernel) (by decide +kernel) (fun r u H locs hw hP hD hS => ?_)
            replace hw := hw.symm; subst hw
            refine lv_lstore (lv' := [(5, .long q74), (0, .ref ah), (1, .ref ag1), (3, .int x3), (4, .int x4), (7, .int x7), (8, .int x8), (9, .int x9), (10, .int x10), (11, .int x11), (12, .int x12)]) hx hb dX3_weigh_77 hl (by decide) rfl (fun ls hl => ?_)
            refine lv_iload hx hb dX3_weigh_79 (lv_at hl 6 rfl) ?_
            refine lv_iload hx hb dX3_weigh_81 (lv_at hl 5 rfl) ?_
            refine lv_iload hx hb dX3_weigh_83 (lv_at hl 8 rfl) ?_
            refine lv_iand hx hb dX3_weigh_85 ?_
            refine lv_ior hx hb dX3_weigh_86 ?_
            refine lv_istore (lv' := [(8, .int (x8 ||| (x7 &&& x10))), (5, .long q74), (0, .ref ah), (1, .ref ag1), (3, .int x3), (4, .int x4), (7, .int x7), (9, .int x9), (10, .int x10), (11, .int x11), (12, .int x12)]) hx hb dX3_weigh_87 hl (by decide) rfl (fun ls hl => ?_)
            refine lv_iload hx hb dX3_weigh_89 (lv_at hl 6 rfl) ?_
            refine lv_iload hx hb dX3_weigh_91 (lv_at hl 8 rfl) ?_
            refine lv_ior hx hb dX3_weigh_93 ?_
            refine lv_istore (lv' := [(7, .int (x7 ||| x10)), (8, .int (x8 ||| (x7 &&& x10))), (5, .long q74), (0, .ref ah), (1, .ref ag1), (3, .int x3), (4, .int x4), (9, .int x9), (10, .int x10), (11, .int x11), (12, .int x12)]) hx hb dX3_weigh_94 hl (by decide) rfl (fun ls hl => ?_)
            refine lv_iinc (v := (x12 + (1 : Int32))) (lv' := [(12, .int (x12 + (1 : Int32))), (7, .int (x7 ||| x10)), (8, .int (x8 ||| (x7 &&& x10))), (5, .long q74), (0, .ref ah), (1, .ref ag1), (3, .int x3), (4, .int x4), (9, .int x9), (10, .int x10), (11, .int x11)]) hx hb dX3_weigh_96 hl (k := 10) rfl rfl (by decide) rfl (fun ls hl => ?_)
            refine lv_goto (tgt := 56) hx hb dX3_weigh_99 (by decide) ?_
            exact ih56 _ _ _ _ _ _ _ _ _ _ _ _ _ _ hF (hP.sub [0, 4, 5, 1, 2, 3] rfl) (hD.sub [0, 4, 5, 1, 2, 3] (by decide +kernel) rfl) hS (lv_sub hl [4, 5, 6, 7, 3, 1, 2, 8, 9, 10, 0] rfl)
      intro x3 x4 x5 x7 x8 x9 vh_leastHalves vh_leastProduct H locs ls hF hP hD hS hl
      rw [fX3_weigh_17] at hF
      refine lv_iload hx hb dX3_weigh_17 (lv_at hl 7 rfl) ?_
      refine lv_aload_n hx hb dX3_weigh_19 rfl (lv_at hl 1 rfl) ?_
      refine va_getN (D := G) (ci := 1) (v := .int vg1_size) (C := RX2) (T := TX2) (N := 2) hx hb hts hiX2 hown hK hP 3 rfl rfl 1 (by decide) (va_Nw.use rfl (hN.1 _ (List.mem_of_getElem? (i := 20) rfl))) (fun _ h9 => h9) rfl dX3_weigh_20 ?_
      refine lv_icmp_ge (tgt := 108) hx hb dX3_weigh_23 (by decide) (fun c_23 => ?_) (fun c_23 => ?_)
      · have hF := z_t c_23 hF
        refine lv_iload hx hb dX3_weigh_108 (lv_at hl 6 rfl) ?_
        refine lv_aload_n hx hb dX3_weigh_110 rfl (lv_at hl 1 rfl) ?_
        refine lv_iconst (v := (0 : Int32)) hx hb dX3_weigh_111 (by decide) ?_
        obtain ⟨q112, hc_112, hF⟩ := z_bind hF
        refine z_backi (wr := [(ah, .inr (2, [.ref ah_sizes, .int vh_leastHalves, .long vh_leastProduct])), (ah_sizes, .inr (5, [.ref ah_sizes_cells])), (ah_sizes_cells, .inl (tt 0, 5, .inl vh_sizes_cells))]) (z_goV (wc := [(ag1, .inr (1, [.ref ag1_codes, .int vg1_size])), (ag1_codes, .inr (5, [.ref ag1_codes_cells])), (ag1_codes_cells, .inl (tt 0, 5, .inl vg1_codes_cells))]) (As := [.int (0 : Int32)]) (rest := [.int x8]) (ci := 1) ⟨hx, hb, hml, hown, hts⟩ hK hN hP hD (mX2_variables l G tt H.size K ag1 ag1_codes ag1_codes_cells vg1_codes_cells vg1_size (0 : Int32) q112 hc_112) (cwV 1 hts gX3_weigh_X2_variables rfl rfl rfl (by decide +kernel) ⟨Nat.le_of_ble_eq_true rfl, Nat.le_of_ble_eq_true rfl⟩) [3, 4, 5] rfl (by decide +kernel) rfl rfl rfl hl.1 rfl (Nat.le_of_ble_eq_true rfl) dX3_weigh_112 ⟨Nat.zero_le _, Nat.zero_le _⟩) hP hD hS hA [3, 4, 5] [0, 1, 2] rfl rfl (by decide +kernel) (by decide +kernel) (fun r u H locs hw hP hD hS => ?_)
        replace hw := hw.symm; subst hw
        refine lv_icmp_ne (tgt := 144) hx hb dX3_weigh_115 (by decide) (fun c_115 => ?_) (fun c_115 => ?_)
        · have hF := z_f c_115 hF
          have hPD : zPD G A [(ah, .inr (2, [.ref ah_sizes, .int vh_leastHalves, .long vh_leastProduct])), (ah_sizes, .inr (5, [.ref ah_sizes_cells])), (ah_sizes_cells, .inl (tt 0, 5, .inl vh_sizes_cells)), (ag1, .inr (1, [.ref ag1_codes, .int vg1_size])), (ag1_codes, .inr (5, [.ref ag1_codes_cells])), (ag1_codes_cells, .inl (tt 0, 5, .inl vg1_codes_cells))] H := ⟨hP.sub [0, 1, 2, 3, 4, 5] rfl, hD.sub [0, 1, 2, 3, 4, 5] (by decide +kernel) rfl⟩
          have hP9 := hPD.1
          have hD9 := hPD.2
          have hR := Option.some.inj hF
          exact W.vret hx hb hr (fun t ht hW => ⟨⟨(vh_leastHalves, vh_leastProduct), rfl, (by subst hR; rfl), by rw [ht]; exact hP9, va_K.moved hW.alike hK, hD9⟩, hS.F ht⟩) hS.2.2 dX3_weigh_144
        · have hF := z_t c_115 hF
          refine lv_aload_n hx hb dX3_weigh_118 rfl (lv_at hl 0 rfl) ?_
          refine lv_aload_n hx hb dX3_weigh_119 rfl (lv_at hl 0 rfl) ?_
          refine va_get (D := G) (ci := 2) (v := .int vh_leastHalves) (C := RX3) (T := TX3) (N := 3) hx hb hts hiX3 hown hK hP 0 rfl rfl 1 (by decide) (hts (.fieldLink RX3 38 "LeapTables$Cover" "leastHalves" "I") (List.mem_of_getElem? (i := 2) rfl)) (fun _ h9 => h9) rfl dX3_weigh_120 ?_
          refine lv_iload hx hb dX3_weigh_123 (lv_at hl 3 rfl) ?_
          refine va_mmin hx hb (hml.trans hl.1.symm) hown (hts (.methodLink RX3 76 Lib.Math.min.name) (List.mem_of_getElem? (i := 3) rfl)) (hts (.static Lib.Math.min.name) (List.mem_of_getElem? (i := 4) rfl)) (hts (.initialized "java/lang/Math") (List.mem_of_getElem? (i := 5) rfl)) (hts (.code Lib.Math.min.name Lib.Math.min.code 2 (some .int)) (List.mem_of_getElem? (i := 6) rfl)) (Nat.le_of_ble_eq_true rfl) (Nat.le_of_ble_eq_true rfl) (Nat.zero_le _) (Nat.zero_le _) dX3_weigh_125 ?_
          refine va_put (D := G) (ci := 2) (v := .int (if x4 < vh_leastHalves then x4 else vh_leastHalves)) (ty := .int) (C := RX3) (T := TX3) (N := 3) hx hb hts hiX3 tyX3 tyX3_ok nmX3 hown hK hP hD hS 0 rfl rfl 1 (by decide) (hts (.fieldLink RX3 38 "LeapTables$Cover" "leastHalves" "I") (List.mem_of_getElem? (i := 2) rfl)) (fun _ h9 => h9) rfl (by decide +kernel) rfl rfl (Nat.le_of_ble_eq_true rfl) dX3_weigh_128 (fun H locs hP hD hS => ?_)
          refine lv_aload_n hx hb dX3_weigh_131 rfl (lv_at hl 0 rfl) ?_
          refine lv_aload_n hx hb dX3_weigh_132 rfl (lv_at hl 0 rfl) ?_
          refine va_get (D := G) (ci := 2) (v := .long vh_leastProduct) (C := RX3) (T := TX3) (N := 3) hx hb hts hiX3 hown hK hP 0 rfl rfl 2 (by decide) (hts (.fieldLink RX3 43 "LeapTables$Cover" "leastProduct" "J") (List.mem_of_getElem? (i := 7) rfl)) (fun _ h9 => h9) rfl dX3_weigh_133 ?_
          refine lv_lload hx hb dX3_weigh_136 (lv_at hl 4 rfl) ?_
          refine z_lmin hx hb (hml.trans hl.1.symm) hown (hts (.methodLink RX3 82 Lib.MathLoose.min_long.x) (List.mem_of_getElem? (i := 8) rfl)) (hts (.static Lib.MathLoose.min_long.x) (List.mem_of_getElem? (i := 9) rfl)) (hts (.initialized "java/lang/Math") (List.mem_of_getElem? (i := 5) rfl)) (hts (.code Lib.MathLoose.min_long.x Lib.MathLoose.min_long.code 4 (some .long)) (List.mem_of_getElem? (i := 10) rfl)) (Nat.le_of_ble_eq_true rfl) (Nat.le_of_ble_eq_true rfl) (Nat.zero_le _) (Nat.zero_le _) dX3_weigh_138 ?_
          refine va_put (D := G) (ci := 2) (v := .long (if x5 < vh_leastProduct then x5 else vh_leastProduct)) (ty := .long) (C := RX3) (T := TX3) (N := 3) hx hb hts hiX3 tyX3 tyX3_ok nmX3 hown hK hP hD hS 0 rfl rfl 2 (by decide) (hts (.fieldLink RX3 43 "LeapTables$Cover" "leastProduct" "J") (List.mem_of_getElem? (i := 7) rfl)) (fun _ h9 => h9) rfl (by decide +kernel) rfl rfl (Nat.le_of_ble_eq_true rfl) dX3_weigh_141 (fun H locs hP hD hS => ?_)
          have hPD : zPD G A [(ah, .inr (2, [.ref ah_sizes, .int (if x4 < vh_leastHalves then x4 else vh_leastHalves), .long (if x5 < vh_leastProduct then x5 else vh_leastProduct)])), (ah_sizes, .inr (5, [.ref ah_sizes_cells])), (ah_sizes_cells, .inl (tt 0, 5, .inl vh_sizes_cells)), (ag1, .inr (1, [.ref ag1_codes, .int vg1_size])), (ag1_codes, .inr (5, [.ref ag1_codes_cells])), (ag1_codes_cells, .inl (tt 0, 5, .inl vg1_codes_cells))] H := ⟨hP.sub [0, 1, 2, 3, 4, 5] rfl, hD.sub [0, 1, 2, 3, 4, 5] (by decide +kernel) rfl⟩
          have hP9 := hPD.1
          have hD9 := hPD.2
          have hR := Option.some.inj hF
          exact W.vret hx hb hr (fun t ht hW => ⟨⟨((if x4 < vh_leastHalves then x4 else vh_leastHalves), (if x5 < vh_leastProduct then x5 else vh_leastProduct)), rfl, (by subst hR; rfl), by rw [ht]; exact hP9, va_K.moved hW.alike hK, hD9⟩, hS.F ht⟩) hS.2.2 dX3_weigh_144
      · have hF := z_f c_23 hF
        refine lv_aload_n hx hb dX3_weigh_26 rfl (lv_at hl 1 rfl) ?_
        refine lv_iload hx hb dX3_weigh_27 (lv_at hl 7 rfl) ?_
        obtain ⟨q29, hc_29, hF⟩ := z_bind hF
        refine z_backi (wr := [(ah, .inr (2, [.ref ah_sizes, .int vh_leastHalves, .long vh_leastProduct])), (ah_sizes, .inr (5, [.ref ah_sizes_cells])), (ah_sizes_cells, .inl (tt 0, 5, .inl vh_sizes_cells))]) (z_goV (wc := [(ag1, .inr (1, [.ref ag1_codes, .int vg1_size])), (ag1_codes, .inr (5, [.ref ag1_codes_cells])), (ag1_codes_cells, .inl (tt 0, 5, .inl vg1_codes_cells))]) (As := [.int x9]) (rest := []) (ci := 1) ⟨hx, hb, hml, hown, hts⟩ hK hN hP hD (mX2_at l G tt H.size ag1 ag1_codes ag1_codes_cells vg1_codes_cells vg1_size x9 q29 hc_29) (cwV 1 hts gX3_weigh_X2_at rfl rfl rfl (by decide +kernel) ⟨Nat.le_of_ble_eq_true rfl, Nat.le_of_ble_eq_true rfl⟩) [3, 4, 5] rfl (by decide +kernel) rfl rfl rfl hl.1 rfl (Nat.le_of_ble_eq_true rfl) dX3_weigh_29 ⟨Nat.zero_le _, Nat.zero_le _⟩) hP hD hS hA [3, 4, 5] [0, 1, 2] rfl rfl (by decide +kernel) (by decide +kernel) (fun r u H locs hw hP hD hS => ?_)
        replace hw := hw.symm; subst hw
        obtain ⟨q32, hc_32, hF⟩ := z_bind hF
        refine z_backi (wr := [(ah, .inr (2, [.ref ah_sizes, .int vh_leastHalves, .long vh_leastProduct])), (ah_sizes, .inr (5, [.ref ah_sizes_cells])), (ah_sizes_cells, .inl (tt 0, 5, .inl vh_sizes_cells)), (ag1, .inr (1, [.ref ag1_codes, .int vg1_size])), (ag1_codes, .inr (5, [.ref ag1_codes_cells])), (ag1_codes_cells, .inl (tt 0, 5, .inl vg1_codes_cells))]) (z_goS (wc := []) (As := [.int q29]) (rest := []) ⟨hx, hb, hml, hown, hts⟩ hK hN hP hD (mX1_variables l G tt H.size q29 q32 hc_32) (va_cwS 1 hts gX3_weigh_X1_variables rfl rfl rfl (by decide +kernel) ⟨Nat.le_of_ble_eq_true rfl, Nat.le_of_ble_eq_true rfl⟩) [] rfl (by decide +kernel) rfl hl.1 rfl (Nat.le_of_ble_eq_true rfl) dX3_weigh_32 ⟨Nat.zero_le _, Nat.zero_le _⟩) hP hD hS hA [] [0, 1, 2, 3, 4, 5] rfl rfl (by decide +kernel) (by decide +kernel) (fun r u H locs hw hP hD hS => ?_)
        replace hw := hw.symm; subst hw
        refine lv_istore (lv' := [(10, .int q32), (0, .ref ah), (1, .ref ag1), (3, .int x3), (4, .int x4), (5, .long x5), (7, .int x7), (8, .int x8), (9, .int x9)]) hx hb dX3_weigh_35 hl (by decide) rfl (fun ls hl => ?_)
        refine lv_iload_n hx hb dX3_weigh_37 rfl (lv_at hl 3 rfl) ?_
        refine lv_iconst (v := (3 : Int32)) hx hb dX3_weigh_38 (by decide) ?_
        refine lv_irem hx hb dX3_weigh_39 (by decide) ?_
        refine lv_istore (lv' := [(11, .int (x3 - x3 / (3 : Int32) * (3 : Int32))), (10, .int q32), (0, .ref ah), (1, .ref ag1), (3, .int x3), (4, .int x4), (5, .long x5), (7, .int x7), (8, .int x8), (9, .int x9)]) hx hb dX3_weigh_40 hl (by decide) rfl (fun ls hl => ?_)
        refine lv_iload_n hx hb dX3_weigh_42 rfl (lv_at hl 4 rfl) ?_
        refine lv_iconst (v := (3 : Int32)) hx hb dX3_weigh_43 (by decide) ?_
        refine lv_idiv hx hb dX3_weigh_44 (by decide) ?_
        refine lv_istore_n (lv' := [(3, .int (x3 / (3 : Int32))), (11, .int (x3 - x3 / (3 : Int32) * (3 : Int32))), (10, .int q32), (0, .ref ah), (1, .ref ag1), (4, .int x4), (5, .long x5), (7, .int x7), (8, .int x8), (9, .int x9)]) hx hb dX3_weigh_45 rfl hl (by decide) rfl (fun ls hl => ?_)
        refine lv_iload hx hb dX3_weigh_46 (lv_at hl 5 rfl) ?_
        refine lv_iload hx hb dX3_weigh_48 (lv_at hl 1 rfl) ?_
        refine lv_iadd hx hb dX3_weigh_50 ?_
        refine lv_istore (lv' := [(4, .int (x4 + (x3 - x3 / (3 : Int32) * (3 : Int32)))), (3, .int (x3 / (3 : Int32))), (11, .int (x3 - x3 / (3 : Int32) * (3 : Int32))), (10, .int q32), (0, .ref ah), (1, .ref ag1), (5, .long x5), (7, .int x7), (8, .int x8), (9, .int x9)]) hx hb dX3_weigh_51 hl (by decide) rfl (fun ls hl => ?_)
        refine lv_iconst (v := (0 : Int32)) hx hb dX3_weigh_53 (by decide) ?_
        refine lv_istore (lv' := [(12, .int (0 : Int32)), (4, .int (x4 + (x3 - x3 / (3 : Int32) * (3 : Int32)))), (3, .int (x3 / (3 : Int32))), (11, .int (x3 - x3 / (3 : Int32) * (3 : Int32))), (10, .int q32), (0, .ref ah), (1, .ref ag1), (5, .long x5), (7, .int x7), (8, .int x8), (9, .int x9)]) hx hb dX3_weigh_54 hl (by decide) rfl (fun ls hl => ?_)
        exact hb56 K _ _ _ _ _ _ _ _ _ _ _ _ _ _ hF hP hD hS (lv_sub hl [5, 6, 2, 1, 7, 8, 9, 10, 4, 3, 0] rfl)
  obtain ⟨H, hHe⟩ : ∃ H : Heap, s.heap = H := ⟨_, rfl⟩
  have hS : va_S A s.heap H [] := by rw [← hHe]; exact va_S.rf
  rw [hHe] at hP ⊢
  unfold fX3_weigh at hF
  refine lv_iload_n hx hb dX3_weigh_0 rfl (lv_at hl 2 rfl) ?_
  refine lv_istore_n (lv' := [(3, .int p2), (0, .ref ah), (1, .ref ag1), (2, .int p2)]) hx hb dX3_weigh_1 rfl hl (by decide) rfl (fun ls hl => ?_)
  refine lv_iconst (v := (0 : Int32)) hx hb dX3_weigh_2 (by decide) ?_
  refine lv_istore (lv' := [(4, .int (0 : Int32)), (3, .int p2), (0, .ref ah), (1, .ref ag1), (2, .int p2)]) hx hb dX3_weigh_3 hl (by decide) rfl (fun ls hl => ?_)
  refine lv_lconst (v := (1 : Int64)) hx hb dX3_weigh_5 (by decide) ?_
  refine lv_lstore (lv' := [(5, .long (1 : Int64)), (4, .int (0 : Int32)), (3, .int p2), (0, .ref ah), (1, .ref ag1), (2, .int p2)]) hx hb dX3_weigh_6 hl (by decide) rfl (fun ls hl => ?_)
  refine lv_iconst (v := (0 : Int32)) hx hb dX3_weigh_8 (by decide) ?_
  refine lv_istore (lv' := [(7, .int (0 : Int32)), (5, .long (1 : Int64)), (4, .int (0 : Int32)), (3, .int p2), (0, .ref ah), (1, .ref ag1), (2, .int p2)]) hx hb dX3_weigh_9 hl (by decide) rfl (fun ls hl => ?_)
  refine lv_iconst (v := (0 : Int32)) hx hb dX3_weigh_11 (by decide) ?_
  refine lv_istore (lv' := [(8, .int (0 : Int32)), (7, .int (0 : Int32)), (5, .long (1 : Int64)), (4, .int (0 : Int32)), (3, .int p2), (0, .ref ah), (1, .ref ag1), (2, .int p2)]) hx hb dX3_weigh_12 hl (by decide) rfl (fun ls hl => ?_)
  refine lv_iconst (v := (0 : Int32)) hx hb dX3_weigh_14 (by decide) ?_
  refine lv_istore (lv' := [(9, .int (0 : Int32)), (8, .int (0 : Int32)), (7, .int (0 : Int32)), (5, .long (1 : Int64)), (4, .int (0 : Int32)), (3, .int p2), (0, .ref ah), (1, .ref ag1), (2, .int p2)]) hx hb dX3_weigh_15 hl (by decide) rfl (fun ls hl => ?_)
  exact hb17 K _ _ _ _ _ _ _ _ _ _ _ hF hP hD hS (lv_sub hl [6, 7, 5, 4, 3, 2, 1, 0] rfl)

set_option maxHeartbeats 8000000 in
set_option maxRecDepth 100000 in
theorem mX3_weighAll (l : Launch) (G : va_G) (tt : Nat → ClassId) (sz : Nat) (K : Nat) (ah : Nat) (ah_sizes : Nat) (ah_sizes_cells : Nat) (vh_sizes_cells : Nat → Int32) (vh_leastHalves : Int32) (vh_leastProduct : Int64) (ag1 : Nat) (ag1_codes : Nat) (ag1_codes_cells : Nat) (vg1_codes_cells : Nat → Int32) (vg1_size : Int32) (ag2 : Nat) (ag2_words : Nat) (vg2_words : Nat → Int64) (RR : (Nat → Int32) × Int32 × Int64) (hF : fX3_weighAll K vg1_codes_cells vg1_size vg2_words vh_sizes_cells vh_leastHalves vh_leastProduct = some RR) : Met l yX3_weighAll wsX3_weighAll ({ frames := 4, cells := 0, slots := 0, locals := 92 } : Room) (zPre G (zTy tt) [.ref ah, .ref ag1, .ref ag2] sz [(ah, .inr (2, [.ref ah_sizes, .int vh_leastHalves, .long vh_leastProduct])), (ah_sizes, .inr (5, [.ref ah_sizes_cells])), (ah_sizes_cells, .inl (tt 0, 5, .inl vh_sizes_cells)), (ag1, .inr (1, [.ref ag1_codes, .int vg1_size])), (ag1_codes, .inr (5, [.ref ag1_codes_cells])), (ag1_codes_cells, .inl (tt 0, 5, .inl vg1_codes_cells)), (ag2, .inr (6, [.ref ag2_words])), (ag2_words, .inl (tt 1, 40, .inr (.inl vg2_words)))]) (va_Qv (fun u : (Nat → Int32) × Int32 × Int64 => u = RR) (zAt G (zTy tt) (va_A [(ah, .inr (2, [.ref ah_sizes, .int vh_leastHalves, .long vh_leastProduct])), (ah_sizes, .inr (5, [.ref ah_sizes_cells])), (ah_sizes_cells, .inl (tt 0, 5, .inl vh_sizes_cells)), (ag1, .inr (1, [.ref ag1_codes, .int vg1_size])), (ag1_codes, .inr (5, [.ref ag1_codes_cells])), (ag1_codes_cells, .inl (tt 0, 5, .inl vg1_codes_cells)), (ag2, .inr (6, [.ref ag2_words])), (ag2_words, .inl (tt 1, 40, .inr (.inl vg2_words)))] sz) (fun u : (Nat → Int32) × Int32 × Int64 => [(ah, .inr (2, [.ref ah_sizes, .int u.2.1, .long u.2.2])), (ah_sizes, .inr (5, [.ref ah_sizes_cells])), (ah_sizes_cells, .inl (tt 0, 5, .inl u.1)), (ag1, .inr (1, [.ref ag1_codes, .int vg1_size])), (ag1_codes, .inr (5, [.ref ag1_codes_cells])), (ag1_codes_cells, .inl (tt 0, 5, .inl vg1_codes_cells)), (ag2, .inr (6, [.ref ag2_words])), (ag2_words, .inl (tt 1, 40, .inr (.inl vg2_words)))])) (va_A [(ah, .inr (2, [.ref ah_sizes, .int vh_leastHalves, .long vh_leastProduct])), (ah_sizes, .inr (5, [.ref ah_sizes_cells])), (ah_sizes_cells, .inl (tt 0, 5, .inl vh_sizes_cells)), (ag1, .inr (1, [.ref ag1_codes, .int vg1_size])), (ag1_codes, .inr (5, [.ref ag1_codes_cells])), (ag1_codes_cells, .inl (tt 0, 5, .inl vg1_codes_cells)), (ag2, .inr (6, [.ref ag2_words])), (ag2_words, .inl (tt 1, 40, .inr (.inl vg2_words)))] sz)) 0 0 (va_A [(ah, .inr (2, [.ref ah_sizes, .int vh_leastHalves, .long vh_leastProduct])), (ah_sizes, .inr (5, [.ref ah_sizes_cells])), (ah_sizes_cells, .inl (tt 0, 5, .inl vh_sizes_cells)), (ag1, .inr (1, [.ref ag1_codes, .int vg1_size])), (ag1_codes, .inr (5, [.ref ag1_codes_cells])), (ag1_codes_cells, .inl (tt 0, 5, .inl vg1_codes_cells)), (ag2, .inr (6, [.ref ag2_words])), (ag2_words, .inl (tt 1, 40, .inr (.inl vg2_words)))] sz) := by
  refine Met.ofW (cc := cX3_weighAll) (maxL := 5) (ret := none) (by decide +kernel) rfl ?_
  intro p e s m args below meth c s₁ B hml hv
  obtain ⟨rfl, hsz, hP, hK, hD0, hN⟩ := hv
  have hx := B.exec
  have hb := B.bytes
  have hr := B.returns
  have hts := atoms_spec (ws := wsX3_weighAll) B.pre
  have hown : s.vm.findClass RX3 = some m.cls := findClass_of_methodNamed B.named
  have hlocks := B.notSynchronized
  subst hsz
  have hD := hD0.self (sz := s.heap.size)
  generalize hAe : va_A [(ah, .inr (2, [.ref ah_sizes, .int vh_leastHalves, .long vh_leastProduct])), (ah_sizes, .inr (5, [.ref ah_sizes_cells])), (ah_sizes_cells, .inl (tt 0, 5, .inl vh_sizes_cells)), (ag1, .inr (1, [.ref ag1_codes, .int vg1_size])), (ag1_codes, .inr (5, [.ref ag1_codes_cells])), (ag1_codes_cells, .inl (tt 0, 5, .inl vg1_codes_cells)), (ag2, .inr (6, [.ref ag2_words])), (ag2_words, .inl (tt 1, 40, .inr (.inl vg2_words)))] s.heap.size = A at hD ⊢
  have hA : ∀ q : Nat, s.heap.size ≤ q → A q := fun q h => by rw [← hAe]; exact Or.inr h
  have hP : va_P G vwCl [(ah, .inr (2, [.ref ah_sizes, .int vh_leastHalves, .long vh_leastProduct])), (ah_sizes, .inr (5, [.ref ah_sizes_cells])), (ah_sizes_cells, .inl (tt 0, 5, .inl vh_sizes_cells)), (ag1, .inr (1, [.ref ag1_codes, .int vg1_size])), (ag1_codes, .inr (5, [.ref ag1_codes_cells])), (ag1_codes_cells, .inl (tt 0, 5, .inl vg1_codes_cells)), (ag2, .inr (6, [.ref ag2_words])), (ag2_words, .inl (tt 1, 40, .inr (.inl vg2_words)))] s.heap := hP
  have hiX2 : ∀ w ∈ wsX20, w ∈ wsX3_weighAll := by decide +kernel
  have hiX3 : ∀ w ∈ wsX30, w ∈ wsX3_weighAll := by decide +kernel
  have hl := lv_entry ([.ref ah, .ref ag1, .ref ag2]) (n := 5) (Nat.le_of_ble_eq_true rfl)
  rw [lg_entry_eq]
  generalize (lg_sl ([.ref ah, .ref ag1, .ref ag2]) ++ List.replicate (5 - (lg_sl ([.ref ah, .ref ag1, .ref ag2])).length) Slot.unset).toArray = ls at hl ⊢
  have hl : lv_has ls 5 [(0, .ref ah), (1, .ref ag1), (2, .ref ag2)] := hl
  have hb59 : ∀ (k59 : Nat) (x3 : Int32) (x4 : Int32) (vh_sizes_cells : Nat → Int32) (vh_leastHalves : Int32) (vh_leastProduct : Int64) (H : Heap) (locs : List Loc) (ls : Array Slot), fX3_weighAll_59 K vg1_codes_cells vg1_size vg2_words k59 x3 x4 vh_sizes_cells vh_leastHalves vh_leastProduct = some RR → va_P G vwCl [(ah, .inr (2, [.ref ah_sizes, .int vh_leastHalves, .long vh_leastProduct])), (ah_sizes, .inr (5, [.ref ah_sizes_cells])), (ah_sizes_cells, .inl (tt 0, 5, .inl vh_sizes_cells)), (ag1, .inr (1, [.ref ag1_codes, .int vg1_size])), (ag1_codes, .inr (5, [.ref ag1_codes_cells])), (ag1_codes_cells, .inl (tt 0, 5, .inl vg1_codes_cells)), (ag2, .inr (6, [.ref ag2_words])), (ag2_words, .inl (tt 1, 40, .inr (.inl vg2_words)))] H → va_D A [(ah, .inr (2, [.ref ah_sizes, .int vh_leastHalves, .long vh_leastProduct])), (ah_sizes, .inr (5, [.ref ah_sizes_cells])), (ah_sizes_cells, .inl (tt 0, 5, .inl vh_sizes_cells)), (ag1, .inr (1, [.ref ag1_codes, .int vg1_size])), (ag1_codes, .inr (5, [.ref ag1_codes_cells])), (ag1_codes_cells, .inl (tt 0, 5, .inl vg1_codes_cells)), (ag2, .inr (6, [.ref ag2_words])), (ag2_words, .inl (tt 1, 40, .inr (.inl vg2_words)))] → va_S A s.heap H locs → lv_has ls 5 [(0, .ref ah), (1, .ref ag1), (3, .int x3), (4, .int x4)] → W p l e (headSpec wsX3_weighAll ({ frames := 4, cells := 0, slots := 0, locals := 92 } : Room)).room s m ([.ref ah, .ref ag1, .ref ag2] : List Value).toArray below meth c H locs 0 0 (MQ below (va_Qv (fun u : (Nat → Int32) × Int32 × Int64 => u = RR) (zAt G (zTy tt) A (fun u : (Nat → Int32) × Int32 × Int64 => [(ah, .inr (2, [.ref ah_sizes, .int u.2.1, .long u.2.2])), (ah_sizes, .inr (5, [.ref ah_sizes_cells])), (ah_sizes_cells, .inl (tt 0, 5, .inl u.1)), (ag1, .inr (1, [.ref ag1_codes, .int vg1_size])), (ag1_codes, .inr (5, [.ref ag1_codes_cells])), (ag1_codes_cells, .inl (tt 0, 5, .inl vg1_codes_cells)), (ag2, .inr (6, [.ref ag2_words])), (ag2_words, .inl (tt 1, 40, .inr (.inl vg2_words)))])) A) ([.ref ah, .ref ag1, .ref ag2] : List Value).toArray s 0 0 A) (F0 m 59 ls []) := by
    intro k59
    induction k59 with
    | zero => intro x3 x4 vh_sizes_cells vh_leastHalves vh_leastProduct H locs ls hF; rw [fX3_weighAll_59] at hF; cases hF
    | succ k59 ih59 =>
      intro x3 x4 vh_sizes_cells vh_leastHalves vh_leastProduct H locs ls hF hP hD hS hl
      rw [fX3_weighAll_59] at hF
      refine lv_iload hx hb dX3_weighAll_59 (lv_at hl 3 rfl) ?_
      refine lv_iload_n hx hb dX3_weighAll_61 rfl (lv_at hl 2 rfl) ?_
      refine lv_icmp_ge (tgt := 78) hx hb dX3_weighAll_62 (by decide) (fun c_62 => ?_) (fun c_62 => ?_)
      · have hF := z_t c_62 hF
        have hPD : zPD G A [(ah, .inr (2, [.ref ah_sizes, .int vh_leastHalves, .long vh_leastProduct])), (ah_sizes, .inr (5, [.ref ah_sizes_cells])), (ah_sizes_cells, .inl (tt 0, 5, .inl vh_sizes_cells)), (ag1, .inr (1, [.ref ag1_codes, .int vg1_size])), (ag1_codes, .inr (5, [.ref ag1_codes_cells])), (ag1_codes_cells, .inl (tt 0, 5, .inl vg1_codes_cells)), (ag2, .inr (6, [.ref ag2_words])), (ag2_words, .inl (tt 1, 40, .inr (.inl vg2_words)))] H := ⟨hP.sub [0, 1, 2, 3, 4, 5, 6, 7] rfl, hD.sub [0, 1, 2, 3, 4, 5, 6, 7] (by decide +kernel) rfl⟩
        have hP9 := hPD.1
        have hD9 := hPD.2
        have hR := Option.some.inj hF
        exact W.vret hx hb hr (fun t ht hW => ⟨⟨(vh_sizes_cells, vh_leastHalves, vh_leastProduct), rfl, (by subst hR; rfl), by rw [ht]; exact hP9, va_K.moved hW.alike hK, hD9⟩, hS.F ht⟩) hS.2.2 dX3_weighAll_78
      · have hF := z_f c_62 hF
        refine lv_aload_n hx hb dX3_weighAll_65 rfl (lv_at hl 0 rfl) ?_
        refine lv_aload_n hx hb dX3_weighAll_66 rfl (lv_at hl 1 rfl) ?_
        refine lv_iload hx hb dX3_weighAll_67 (lv_at hl 3 rfl) ?_
        obtain ⟨q69, hc_69, hF⟩ := z_bind hF
        refine z_backv (wr := [(ag2, .inr (6, [.ref ag2_words])), (ag2_words, .inl (tt 1, 40, .inr (.inl vg2_words)))]) (z_goV (wc := [(ah, .inr (2, [.ref ah_sizes, .int vh_leastHalves, .long vh_leastProduct])), (ah_sizes, .inr (5, [.ref ah_sizes_cells])), (ah_sizes_cells, .inl (tt 0, 5, .inl vh_sizes_cells)), (ag1, .inr (1, [.ref ag1_codes, .int vg1_size])), (ag1_codes, .inr (5, [.ref ag1_codes_cells])), (ag1_codes_cells, .inl (tt 0, 5, .inl vg1_codes_cells))]) (As := [.ref ag1, .int x4]) (rest := []) (ci := 2) ⟨hx, hb, hml, hown, hts⟩ hK hN hP hD (mX3_weigh l G tt H.size K ah ah_sizes ah_sizes_cells vh_sizes_cells vh_leastHalves vh_leastProduct ag1 ag1_codes ag1_codes_cells vg1_codes_cells vg1_size x4 q69 hc_69) (cwV 2 hts gX3_weighAll_X3_weigh rfl rfl rfl (by decide +kernel) ⟨Nat.le_of_ble_eq_true rfl, Nat.le_of_ble_eq_true rfl⟩) [0, 1, 2, 3, 4, 5] rfl (by decide +kernel) rfl rfl rfl hl.1 rfl (Nat.le_of_ble_eq_true rfl) dX3_weighAll_69 ⟨Nat.zero_le _, Nat.zero_le _⟩) hP hD hS hA [0, 1, 2, 3, 4, 5] [6, 7] rfl rfl (by decide +kernel) (by decide +kernel) (fun u H locs hw hP hD hS => ?_)
        replace hw := hw.symm; subst hw
        refine lv_iinc (v := (x4 + (1 : Int32))) (lv' := [(4, .int (x4 + (1 : Int32))), (0, .ref ah), (1, .ref ag1), (3, .int x3)]) hx hb dX3_weighAll_72 hl (k := 3) rfl rfl (by decide) rfl (fun ls hl => ?_)
        refine lv_goto (tgt := 59) hx hb dX3_weighAll_75 (by decide) ?_
        exact ih59 _ _ _ _ _ _ _ _ hF (hP.sub [2, 3, 4, 5, 6, 7, 0, 1] rfl) (hD.sub [2, 3, 4, 5, 6, 7, 0, 1] (by decide +kernel) rfl) hS (lv_sub hl [1, 2, 3, 0] rfl)
  have hb5 : ∀ (k5 : Nat) (x3 : Int32) (x4 : Int32) (vh_sizes_cells : Nat → Int32) (vh_leastHalves : Int32) (vh_leastProduct : Int64) (H : Heap) (locs : List Loc) (ls : Array Slot), fX3_weighAll_5 K vg1_codes_cells vg1_size vg2_words k5 x3 x4 vh_sizes_cells vh_leastHalves vh_leastProduct = some RR → va_P G vwCl [(ah, .inr (2, [.ref ah_sizes, .int vh_leastHalves, .long vh_leastProduct])), (ah_sizes, .inr (5, [.ref ah_sizes_cells])), (ah_sizes_cells, .inl (tt 0, 5, .inl vh_sizes_cells)), (ag1, .inr (1, [.ref ag1_codes, .int vg1_size])), (ag1_codes, .inr (5, [.ref ag1_codes_cells])), (ag1_codes_cells, .inl (tt 0, 5, .inl vg1_codes_cells)), (ag2, .inr (6, [.ref ag2_words])), (ag2_words, .inl (tt 1, 40, .inr (.inl vg2_words)))] H → va_D A [(ah, .inr (2, [.ref ah_sizes, .int vh_leastHalves, .long vh_leastProduct])), (ah_sizes, .inr (5, [.ref ah_sizes_cells])), (ah_sizes_cells, .inl (tt 0, 5, .inl vh_sizes_cells)), (ag1, .inr (1, [.ref ag1_codes, .int vg1_size])), (ag1_codes, .inr (5, [.ref ag1_codes_cells])), (ag1_codes_cells, .inl (tt 0, 5, .inl vg1_codes_cells)), (ag2, .inr (6, [.ref ag2_words])), (ag2_words, .inl (tt 1, 40, .inr (.inl vg2_words)))] → va_S A s.heap H locs → lv_has ls 5 [(0, .ref ah), (1, .ref ag1), (2, .ref ag2), (3, .int x3), (4, .int x4)] → W p l e (headSpec wsX3_weighAll ({ frames := 4, cells := 0, slots := 0, locals := 92 } : Room)).room s m ([.ref ah, .ref ag1, .ref ag2] : List Value).toArray below meth c H locs 0 0 (MQ below (va_Qv (fun u : (Nat → Int32) × Int32 × Int64 => u = RR) (zAt G (zTy tt) A (fun u : (Nat → Int32) × Int32 × Int64 => [(ah, .inr (2, [.ref ah_sizes, .int u.2.1, .long u.2.2])), (ah_sizes, .inr (5, [.ref ah_sizes_cells])), (ah_sizes_cells, .inl (tt 0, 5, .inl u.1)), (ag1, .inr (1, [.ref ag1_codes, .int vg1_size])), (ag1_codes, .inr (5, [.ref ag1_codes_cells])), (ag1_codes_cells, .inl (tt 0, 5, .inl vg1_codes_cells)), (ag2, .inr (6, [.ref ag2_words])), (ag2_words, .inl (tt 1, 40, .inr (.inl vg2_words)))])) A) ([.ref ah, .ref ag1, .ref ag2] : List Value).toArray s 0 0 A) (F0 m 5 ls []) := by
    intro k5
    induction k5 with
    | zero => intro x3 x4 vh_sizes_cells vh_leastHalves vh_leastProduct H locs ls hF; rw [fX3_weighAll_5] at hF; cases hF
    | succ k5 ih5 =>
      intro x3 x4 vh_sizes_cells vh_leastHalves vh_leastProduct H locs ls hF hP hD hS hl
      rw [fX3_weighAll_5] at hF
      refine lv_iload hx hb dX3_weighAll_5 (lv_at hl 4 rfl) ?_
      refine lv_aload_n hx hb dX3_weighAll_7 rfl (lv_at hl 1 rfl) ?_
      refine va_getN (D := G) (ci := 1) (v := .int vg1_size) (C := RX2) (T := TX2) (N := 2) hx hb hts hiX2 hown hK hP 3 rfl rfl 1 (by decide) (va_Nw.use rfl (hN.1 _ (List.mem_of_getElem? (i := 20) rfl))) (fun _ h9 => h9) rfl dX3_weighAll_8 ?_
      refine lv_icmp_ge (tgt := 43) hx hb dX3_weighAll_11 (by decide) (fun c_11 => ?_) (fun c_11 => ?_)
      · have hF := z_t c_11 hF
        refine lv_aload_n hx hb dX3_weighAll_43 rfl (lv_at hl 0 rfl) ?_
        refine lv_bipush (v := (10 : Int32)) hx hb dX3_weighAll_44 (by decide) ?_
        refine va_put (D := G) (ci := 2) (v := .int (10 : Int32)) (ty := .int) (C := RX3) (T := TX3) (N := 3) hx hb hts hiX3 tyX3 tyX3_ok nmX3 hown hK hP hD hS 0 rfl rfl 1 (by decide) (hts (.fieldLink RX3 38 "LeapTables$Cover" "leastHalves" "I") (List.mem_of_getElem? (i := 2) rfl)) (fun _ h9 => h9) rfl (by decide +kernel) rfl rfl (Nat.le_of_ble_eq_true rfl) dX3_weighAll_46 (fun H locs hP hD hS => ?_)
        refine lv_aload_n hx hb dX3_weighAll_49 rfl (lv_at hl 0 rfl) ?_
        refine lv_ldc2 (v := (9223372036854775807 : Int64)) hx hb hown (hts (.constantLong RX3 41 (9223372036854775807)) (List.mem_of_getElem? (i := 3) rfl)) dX3_weighAll_50 ?_
        refine va_put (D := G) (ci := 2) (v := .long (9223372036854775807 : Int64)) (ty := .long) (C := RX3) (T := TX3) (N := 3) hx hb hts hiX3 tyX3 tyX3_ok nmX3 hown hK hP hD hS 0 rfl rfl 2 (by decide) (hts (.fieldLink RX3 43 "LeapTables$Cover" "leastProduct" "J") (List.mem_of_getElem? (i := 4) rfl)) (fun _ h9 => h9) rfl (by decide +kernel) rfl rfl (Nat.le_of_ble_eq_true rfl) dX3_weighAll_53 (fun H locs hP hD hS => ?_)
        refine lv_iconst (v := (0 : Int32)) hx hb dX3_weighAll_56 (by decide) ?_
        refine lv_istore (lv' := [(4, .int (0 : Int32)), (0, .ref ah), (1, .ref ag1), (2, .ref ag2), (3, .int x3)]) hx hb dX3_weighAll_57 hl (by decide) rfl (fun ls hl => ?_)
        exact hb59 K _ _ _ _ _ _ _ _ hF hP hD hS (lv_sub hl [1, 2, 4, 0] rfl)
      · have hF := z_f c_11 hF
        refine lv_aload_n hx hb dX3_weighAll_14 rfl (lv_at hl 0 rfl) ?_
        refine va_get (D := G) (ci := 2) (v := .ref ah_sizes) (C := RX3) (T := TX3) (N := 3) hx hb hts hiX3 hown hK hP 0 rfl rfl 0 (by decide) (hts (.fieldLink RX3 14 "LeapTables$Cover" "sizes" "LLeapTables$Ints;") (List.mem_of_getElem? (i := 1) rfl)) (fun _ h9 => h9) rfl dX3_weighAll_15 ?_
        refine lv_iload hx hb dX3_weighAll_18 (lv_at hl 4 rfl) ?_
        refine lv_aload_n hx hb dX3_weighAll_20 rfl (lv_at hl 1 rfl) ?_
        refine lv_iload hx hb dX3_weighAll_21 (lv_at hl 4 rfl) ?_
        obtain ⟨q23, hc_23, hF⟩ := z_bind hF
        refine z_backi (wr := [(ah, .inr (2, [.ref ah_sizes, .int vh_leastHalves, .long vh_leastProduct])), (ah_sizes, .inr (5, [.ref ah_sizes_cells])), (ah_sizes_cells, .inl (tt 0, 5, .inl vh_sizes_cells)), (ag2, .inr (6, [.ref ag2_words])), (ag2_words, .inl (tt 1, 40, .inr (.inl vg2_words)))]) (z_goV (wc := [(ag1, .inr (1, [.ref ag1_codes, .int vg1_size])), (ag1_codes, .inr (5, [.ref ag1_codes_cells])), (ag1_codes_cells, .inl (tt 0, 5, .inl vg1_codes_cells))]) (As := [.int x4]) (rest := [.int x4, .ref ah_sizes]) (ci := 1) ⟨hx, hb, hml, hown, hts⟩ hK hN hP hD (mX2_at l G tt H.size ag1 ag1_codes ag1_codes_cells vg1_codes_cells vg1_size x4 q23 hc_23) (cwV 1 hts gX3_weighAll_X2_at rfl rfl rfl (by decide +kernel) ⟨Nat.le_of_ble_eq_true rfl, Nat.le_of_ble_eq_true rfl⟩) [3, 4, 5] rfl (by decide +kernel) rfl rfl rfl hl.1 rfl (Nat.le_of_ble_eq_true rfl) dX3_weighAll_23 ⟨Nat.zero_le _, Nat.zero_le _⟩) hP hD hS hA [3, 4, 5] [0, 1, 2, 6, 7] rfl rfl (by decide +kernel) (by decide +kernel) (fun r u H locs hw hP hD hS => ?_)
        replace hw := hw.symm; subst hw
        refine lv_aload_n hx hb dX3_weighAll_26 rfl (lv_at hl 2 rfl) ?_
        obtain ⟨q27, hc_27, hF⟩ := z_bind hF
        refine z_backi (wr := [(ah, .inr (2, [.ref ah_sizes, .int vh_leastHalves, .long vh_leastProduct])), (ah_sizes, .inr (5, [.ref ah_sizes_cells])), (ah_sizes_cells, .inl (tt 0, 5, .inl vh_sizes_cells)), (ag1, .inr (1, [.ref ag1_codes, .int vg1_size])), (ag1_codes, .inr (5, [.ref ag1_codes_cells])), (ag1_codes_cells, .inl (tt 0, 5, .inl vg1_codes_cells))]) (z_goS (wc := [(ag2, .inr (6, [.ref ag2_words])), (ag2_words, .inl (tt 1, 40, .inr (.inl vg2_words)))]) (As := [.int q23, .ref ag2]) (rest := [.int x4, .ref ah_sizes]) ⟨hx, hb, hml, hown, hts⟩ hK hN hP hD (mX3_sizeOf l G tt H.size K q23 ag2 ag2_words vg2_words q27 hc_27) (va_cwS 2 hts gX3_weighAll_X3_sizeOf rfl rfl rfl (by decide +kernel) ⟨Nat.le_of_ble_eq_true rfl, Nat.le_of_ble_eq_true rfl⟩) [3, 4] rfl (by decide +kernel) rfl hl.1 rfl (Nat.le_of_ble_eq_true rfl) dX3_weighAll_27 ⟨Nat.zero_le _, Nat.zero_le _⟩) hP hD hS hA [3, 4] [0, 1, 2, 5, 6, 7] rfl rfl (by decide +kernel) (by decide +kernel) (fun r u H locs hw hP hD hS => ?_)
        replace hw := hw.symm; subst hw
        obtain ⟨q30, hc_30, hF⟩ := z_bind hF
        refine z_backv (wr := [(ah, .inr (2, [.ref ah_sizes, .int vh_leastHalves, .long vh_leastProduct])), (ag1, .inr (1, [.ref ag1_codes, .int vg1_size])), (ag1_codes, .inr (5, [.ref ag1_codes_cells])), (ag1_codes_cells, .inl (tt 0, 5, .inl vg1_codes_cells)), (ag2, .inr (6, [.ref ag2_words])), (ag2_words, .inl (tt 1, 40, .inr (.inl vg2_words)))]) (z_goV (wc := [(ah_sizes, .inr (5, [.ref ah_sizes_cells])), (ah_sizes_cells, .inl (tt 0, 5, .inl vh_sizes_cells))]) (As := [.int x4, .int q27]) (rest := []) (ci := 5) ⟨hx, hb, hml, hown, hts⟩ hK hN hP hD (mX6_put l G tt H.size 5 ah_sizes ah_sizes_cells vh_sizes_cells x4 q27 q30 hc_30) (cwV 2 hts gX3_weighAll_X6_put rfl rfl rfl (by decide +kernel) ⟨Nat.le_of_ble_eq_true rfl, Nat.le_of_ble_eq_true rfl⟩) [1, 2] rfl (by decide +kernel) rfl rfl rfl hl.1 rfl (Nat.le_of_ble_eq_true rfl) dX3_weighAll_30 ⟨Nat.zero_le _, Nat.zero_le _⟩) hP hD hS hA [1, 2] [0, 3, 4, 5, 6, 7] rfl rfl (by decide +kernel) (by decide +kernel) (fun u H locs hw hP hD hS => ?_)
        replace hw := hw.symm; subst hw
        refine lv_iload_n hx hb dX3_weighAll_33 rfl (lv_at hl 3 rfl) ?_
        refine lv_iconst (v := (3 : Int32)) hx hb dX3_weighAll_34 (by decide) ?_
        refine lv_imul hx hb dX3_weighAll_35 ?_
        refine lv_istore_n (lv' := [(3, .int (x3 * (3 : Int32))), (0, .ref ah), (1, .ref ag1), (2, .ref ag2), (4, .int x4)]) hx hb dX3_weighAll_36 rfl hl (by decide) rfl (fun ls hl => ?_)
        refine lv_iinc (v := (x4 + (1 : Int32))) (lv' := [(4, .int (x4 + (1 : Int32))), (3, .int (x3 * (3 : Int32))), (0, .ref ah), (1, .ref ag1), (2, .ref ag2)]) hx hb dX3_weighAll_37 hl (k := 4) rfl rfl (by decide) rfl (fun ls hl => ?_)
        refine lv_goto (tgt := 5) hx hb dX3_weighAll_40 (by decide) ?_
        exact ih5 _ _ _ _ _ _ _ _ hF (hP.sub [0, 6, 7, 1, 2, 3, 4, 5] rfl) (hD.sub [0, 6, 7, 1, 2, 3, 4, 5] (by decide +kernel) rfl) hS (lv_sub hl [2, 3, 4, 1, 0] rfl)
  obtain ⟨H, hHe⟩ : ∃ H : Heap, s.heap = H := ⟨_, rfl⟩
  have hS : va_S A s.heap H [] := by rw [← hHe]; exact va_S.rf
  rw [hHe] at hP ⊢
  unfold fX3_weighAll at hF
  refine lv_iconst (v := (1 : Int32)) hx hb dX3_weighAll_0 (by decide) ?_
  refine lv_istore_n (lv' := [(3, .int (1 : Int32)), (0, .ref ah), (1, .ref ag1), (2, .ref ag2)]) hx hb dX3_weighAll_1 rfl hl (by decide) rfl (fun ls hl => ?_)
  refine lv_iconst (v := (0 : Int32)) hx hb dX3_weighAll_2 (by decide) ?_
  refine lv_istore (lv' := [(4, .int (0 : Int32)), (3, .int (1 : Int32)), (0, .ref ah), (1, .ref ag1), (2, .ref ag2)]) hx hb dX3_weighAll_3 hl (by decide) rfl (fun ls hl => ?_)
  exact hb5 K _ _ _ _ _ _ _ _ hF hP hD hS (lv_sub hl [2, 3, 4, 1, 0] rfl)
