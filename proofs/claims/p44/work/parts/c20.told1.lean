/-! Told, Dice and the small methods of the law: what they do, and that they do it -/
set_option maxHeartbeats 8000000 in
set_option maxRecDepth 100000 in
theorem oX12_next (l : Launch) (G : va_G) (tt : Nat → ClassId) (sa : Nat → Nat) (hlt : l.stackTraces = false) (sz : Nat) (K : Nat) (aD : Nat) (vSe : Int64) (p1 : Int32) (RR : Int32 × Int64) (hF : hX12_next K p1 vSe = some RR) : Met l yX12_next wsX12_next ({ frames := 1, cells := 0, slots := 0, locals := 60 } : Room) (zPreQ G (zTy tt) sa [.ref aD, .int p1] sz (zW [[(aD, .inr (11, [.long vSe]))]])) (va_Qi (fun (r : Int32) (u : Int64) => r = RR.1 ∧ u = RR.2) (zAt G (zTy tt) (va_A (zW [[(aD, .inr (11, [.long vSe]))]]) sz) (fun u : Int64 => zW [[(aD, .inr (11, [.long u]))]])) (va_A (zW [[(aD, .inr (11, [.long vSe]))]]) sz)) 0 0 (va_A (zW [[(aD, .inr (11, [.long vSe]))]]) sz) := by
  refine Met.ofW (cc := cX12_next) (maxL := 2) (ret := (some .int)) (by decide +kernel) rfl ?_
  intro p e s m args below meth c s₁ B hml hv
  obtain ⟨rfl, hsz, hP, hK, hD0, hN, hX, hO, hAA⟩ := hv
  have hx := B.exec
  have hb := B.bytes
  have hr := B.returns
  have hts := atoms_spec (ws := wsX12_next) B.pre
  have hown : s.vm.findClass RX12 = some m.cls := findClass_of_methodNamed B.named
  have hlocks := B.notSynchronized
  subst hsz
  have hD := hD0.self (sz := s.heap.size)
  generalize hAe : va_A (zW [[(aD, .inr (11, [.long vSe]))]]) s.heap.size = A at hD hX ⊢
  have hA : ∀ q : Nat, s.heap.size ≤ q → A q := fun q h => by rw [← hAe]; exact Or.inr h
  have hP : va_P G vwCl (zW [[(aD, .inr (11, [.long vSe]))]]) s.heap := hP
  have hiX12 : ∀ w ∈ wsX120, w ∈ wsX12_next := by decide +kernel
  have hl := lv_entry ([.ref aD, .int p1]) (n := 2) (Nat.le_of_ble_eq_true rfl)
  rw [lg_entry_eq]
  generalize (lg_sl ([.ref aD, .int p1]) ++ List.replicate (2 - (lg_sl ([.ref aD, .int p1])).length) Slot.unset).toArray = ls at hl ⊢
  have hl : lv_has ls 2 [(0, .ref aD), (1, .int p1)] := hl
  obtain ⟨H, hHe⟩ : ∃ H : Heap, s.heap = H := ⟨_, rfl⟩
  have hS : va_S A s.heap H [] := by rw [← hHe]; exact va_S.rf
  rw [hHe] at hP ⊢
  unfold hX12_next at hF
  refine lv_aload_n hx hb dX12_next_0 rfl (lv_at hl 0 rfl) ?_
  refine lv_aload_n hx hb dX12_next_1 rfl (lv_at hl 0 rfl) ?_
  obtain ⟨k_2, hk_2, hs_2⟩ := zS_one hP 0 rfl
  refine va_get (D := G) (ci := 11) (v := .long vSe) (C := RX12) (T := TX12) (N := 1) hx hb hts hiX12 hown hK hP k_2 hk_2 rfl 0 (by decide) (hts (.fieldLink RX12 9 "LeapTablesLaw$Dice" "seed" "J") (List.mem_of_getElem? (i := 1) rfl)) (fun _ h9 => h9) rfl dX12_next_2 ?_
  refine lv_ldc2 (v := (6364136223846793005 : Int64)) hx hb hown (hts (.constantLong RX12 17 (6364136223846793005)) (List.mem_of_getElem? (i := 2) rfl)) dX12_next_5 ?_
  refine lv_lmul hx hb dX12_next_8 ?_
  refine lv_ldc2 (v := (1442695040888963407 : Int64)) hx hb hown (hts (.constantLong RX12 19 (1442695040888963407)) (List.mem_of_getElem? (i := 3) rfl)) dX12_next_9 ?_
  refine lv_ladd hx hb dX12_next_12 ?_
  obtain ⟨k_13, hk_13, hs_13⟩ := zS_one hP 0 rfl
  refine va_put (D := G) (ci := 11) (v := .long ((vSe * (6364136223846793005 : Int64)) + (1442695040888963407 : Int64))) (ty := .long) (C := RX12) (T := TX12) (N := 1) hx hb hts hiX12 tyX12 tyX12_ok nmX12 hown hK hP hD hS k_13 hk_13 rfl 0 (by decide) (hts (.fieldLink RX12 9 "LeapTablesLaw$Dice" "seed" "J") (List.mem_of_getElem? (i := 1) rfl)) (fun _ h9 => h9) rfl (by decide +kernel) rfl rfl (Nat.le_of_ble_eq_true rfl) dX12_next_13 (fun H locs hP hD hS => ?_)
  rw [hs_13] at hP hD
  have hP : va_P G vwCl (zW [[(aD, .inr (11, [.long ((vSe * (6364136223846793005 : Int64)) + (1442695040888963407 : Int64))]))]]) H := hP
  have hD : va_D A (zW [[(aD, .inr (11, [.long ((vSe * (6364136223846793005 : Int64)) + (1442695040888963407 : Int64))]))]]) := hD
  refine lv_aload_n hx hb dX12_next_16 rfl (lv_at hl 0 rfl) ?_
  obtain ⟨k_17, hk_17, hs_17⟩ := zS_one hP 0 rfl
  refine va_get (D := G) (ci := 11) (v := .long ((vSe * (6364136223846793005 : Int64)) + (1442695040888963407 : Int64))) (C := RX12) (T := TX12) (N := 1) hx hb hts hiX12 hown hK hP k_17 hk_17 rfl 0 (by decide) (hts (.fieldLink RX12 9 "LeapTablesLaw$Dice" "seed" "J") (List.mem_of_getElem? (i := 1) rfl)) (fun _ h9 => h9) rfl dX12_next_17 ?_
  refine lv_bipush (v := (33 : Int32)) hx hb dX12_next_20 (by decide) ?_
  refine lv_lushr hx hb dX12_next_22 rfl ?_
  refine lv_iload_n hx hb dX12_next_23 rfl (lv_at hl 1 rfl) ?_
  refine lv_i2l hx hb dX12_next_24 rfl ?_
  obtain ⟨h_25, hF⟩ := z_neL hF
  refine lv_lrem hx hb dX12_next_25 h_25 ?_
  refine lv_l2i hx hb dX12_next_26 rfl ?_
  have hp9 : (zW [[(aD, .inr (11, [.long ((vSe * (6364136223846793005 : Int64)) + (1442695040888963407 : Int64))]))]]).Perm (zW [[(aD, .inr (11, [.long ((vSe * (6364136223846793005 : Int64)) + (1442695040888963407 : Int64))]))]] ++ zW []) := zS_cut (is := [0]) (js := []) 1 rfl rfl rfl (by decide)
  have hP9 : va_P G vwCl (zW [[(aD, .inr (11, [.long ((vSe * (6364136223846793005 : Int64)) + (1442695040888963407 : Int64))]))]]) H := zS_subP hp9 hP
  have hD9 : va_D A (zW [[(aD, .inr (11, [.long ((vSe * (6364136223846793005 : Int64)) + (1442695040888963407 : Int64))]))]]) := zS_subD hp9 hD
  have hR := Option.some.inj hF
  exact W.iret (v := ((((((vSe * (6364136223846793005 : Int64)) + (1442695040888963407 : Int64)).toUInt64 >>> ((33 : Int32).toInt64.toUInt64 &&& Int64.toUInt64 63)).toInt64) - ((((vSe * (6364136223846793005 : Int64)) + (1442695040888963407 : Int64)).toUInt64 >>> ((33 : Int32).toInt64.toUInt64 &&& Int64.toUInt64 63)).toInt64) / (p1.toInt64) * (p1.toInt64)).toInt32)) hx hb hr (fun t ht hW => ⟨⟨((((((vSe * (6364136223846793005 : Int64)) + (1442695040888963407 : Int64)).toUInt64 >>> ((33 : Int32).toInt64.toUInt64 &&& Int64.toUInt64 63)).toInt64) - ((((vSe * (6364136223846793005 : Int64)) + (1442695040888963407 : Int64)).toUInt64 >>> ((33 : Int32).toInt64.toUInt64 &&& Int64.toUInt64 63)).toInt64) / (p1.toInt64) * (p1.toInt64)).toInt32), (((vSe * (6364136223846793005 : Int64)) + (1442695040888963407 : Int64))), rfl, (by subst hR; exact ⟨rfl, rfl⟩), by rw [ht]; exact hP9, va_K.moved hW.alike hK, hD9⟩, hS.F ht⟩) hS.2.2 dX12_next_27

set_option maxHeartbeats 8000000 in
set_option maxRecDepth 100000 in
theorem oX13_codeBy (l : Launch) (G : va_G) (tt : Nat → ClassId) (sa : Nat → Nat) (hlt : l.stackTraces = false) (sz : Nat) (K : Nat) (nG : Nat) (aT : Nat) (aCol : Nat) (aFa : Nat) (aRu : Nat) (aRo : Nat) (aLa : Nat) (aVa : Nat) (aG : Nat) (vTa : Int32) (vRc : Int32) (vCol : Nat → Int32) (vVa : Nat → Int32) (vG : Nat → Int32) (p2 : Int32) (RR : Int32) (hF : hX13_codeBy K nG vCol vVa vG p2 = some RR) : Met l yX13_codeBy wsX13_codeBy ({ frames := 1, cells := 0, slots := 0, locals := 60 } : Room) (zPreQ G (zTy tt) sa [.ref aT, .ref aG, .int p2] sz (zW [[(aT, .inr (12, [.ref aCol, .int vTa, .ref aFa, .ref aRu, .int vRc, .ref aRo, .ref aLa, .ref aVa]))], [(aCol, .inl (tt 0, 5, .inl vCol))], [(aVa, .inl (tt 0, 4, .inl vVa))], [(aG, .inl (tt 0, nG, .inl vG))]])) (va_Qi (fun (r : Int32) (_ : Unit) => r = RR) (zAt G (zTy tt) (va_A (zW [[(aT, .inr (12, [.ref aCol, .int vTa, .ref aFa, .ref aRu, .int vRc, .ref aRo, .ref aLa, .ref aVa]))], [(aCol, .inl (tt 0, 5, .inl vCol))], [(aVa, .inl (tt 0, 4, .inl vVa))], [(aG, .inl (tt 0, nG, .inl vG))]]) sz) (fun _ : Unit => zW [[(aT, .inr (12, [.ref aCol, .int vTa, .ref aFa, .ref aRu, .int vRc, .ref aRo, .ref aLa, .ref aVa]))], [(aCol, .inl (tt 0, 5, .inl vCol))], [(aVa, .inl (tt 0, 4, .inl vVa))], [(aG, .inl (tt 0, nG, .inl vG))]])) (va_A (zW [[(aT, .inr (12, [.ref aCol, .int vTa, .ref aFa, .ref aRu, .int vRc, .ref aRo, .ref aLa, .ref aVa]))], [(aCol, .inl (tt 0, 5, .inl vCol))], [(aVa, .inl (tt 0, 4, .inl vVa))], [(aG, .inl (tt 0, nG, .inl vG))]]) sz)) 0 0 (va_A (zW [[(aT, .inr (12, [.ref aCol, .int vTa, .ref aFa, .ref aRu, .int vRc, .ref aRo, .ref aLa, .ref aVa]))], [(aCol, .inl (tt 0, 5, .inl vCol))], [(aVa, .inl (tt 0, 4, .inl vVa))], [(aG, .inl (tt 0, nG, .inl vG))]]) sz) := by
  refine Met.ofW (cc := cX13_codeBy) (maxL := 5) (ret := (some .int)) (by decide +kernel) rfl ?_
  intro p e s m args below meth c s₁ B hml hv
  obtain ⟨rfl, hsz, hP, hK, hD0, hN, hX, hO, hAA⟩ := hv
  have hx := B.exec
  have hb := B.bytes
  have hr := B.returns
  have hts := atoms_spec (ws := wsX13_codeBy) B.pre
  have hown : s.vm.findClass RX13 = some m.cls := findClass_of_methodNamed B.named
  have hlocks := B.notSynchronized
  subst hsz
  have hD := hD0.self (sz := s.heap.size)
  generalize hAe : va_A (zW [[(aT, .inr (12, [.ref aCol, .int vTa, .ref aFa, .ref aRu, .int vRc, .ref aRo, .ref aLa, .ref aVa]))], [(aCol, .inl (tt 0, 5, .inl vCol))], [(aVa, .inl (tt 0, 4, .inl vVa))], [(aG, .inl (tt 0, nG, .inl vG))]]) s.heap.size = A at hD hX ⊢
  have hA : ∀ q : Nat, s.heap.size ≤ q → A q := fun q h => by rw [← hAe]; exact Or.inr h
  have hP : va_P G vwCl (zW [[(aT, .inr (12, [.ref aCol, .int vTa, .ref aFa, .ref aRu, .int vRc, .ref aRo, .ref aLa, .ref aVa]))], [(aCol, .inl (tt 0, 5, .inl vCol))], [(aVa, .inl (tt 0, 4, .inl vVa))], [(aG, .inl (tt 0, nG, .inl vG))]]) s.heap := hP
  have hiX13 : ∀ w ∈ wsX130, w ∈ wsX13_codeBy := by decide +kernel
  have hl := lv_entry ([.ref aT, .ref aG, .int p2]) (n := 5) (Nat.le_of_ble_eq_true rfl)
  rw [lg_entry_eq]
  generalize (lg_sl ([.ref aT, .ref aG, .int p2]) ++ List.replicate (5 - (lg_sl ([.ref aT, .ref aG, .int p2])).length) Slot.unset).toArray = ls at hl ⊢
  have hl : lv_has ls 5 [(0, .ref aT), (1, .ref aG), (2, .int p2)] := hl
  have hb5 : ∀ (k5 : Nat), ∀ (x3 : Int32) (x4 : Int32)  (H : Heap) (locs : List Loc) (ls : Array Slot), hX13_codeBy_5 K nG vCol vVa vG p2 k5 x3 x4 = some RR → va_P G vwCl (zW [[(aT, .inr (12, [.ref aCol, .int vTa, .ref aFa, .ref aRu, .int vRc, .ref aRo, .ref aLa, .ref aVa]))], [(aCol, .inl (tt 0, 5, .inl vCol))], [(aVa, .inl (tt 0, 4, .inl vVa))], [(aG, .inl (tt 0, nG, .inl vG))]]) H → va_D A (zW [[(aT, .inr (12, [.ref aCol, .int vTa, .ref aFa, .ref aRu, .int vRc, .ref aRo, .ref aLa, .ref aVa]))], [(aCol, .inl (tt 0, 5, .inl vCol))], [(aVa, .inl (tt 0, 4, .inl vVa))], [(aG, .inl (tt 0, nG, .inl vG))]]) → va_S A s.heap H locs → lv_has ls 5 [(0, .ref aT), (1, .ref aG), (2, .int p2), (3, .int x3), (4, .int x4)] → W p l e (headSpec wsX13_codeBy ({ frames := 1, cells := 0, slots := 0, locals := 60 } : Room)).room s m ([.ref aT, .ref aG, .int p2] : List Value).toArray below meth c H locs 0 0 (MQ below (va_Qi (fun (r : Int32) (_ : Unit) => r = RR) (zAt G (zTy tt) A (fun _ : Unit => zW [[(aT, .inr (12, [.ref aCol, .int vTa, .ref aFa, .ref aRu, .int vRc, .ref aRo, .ref aLa, .ref aVa]))], [(aCol, .inl (tt 0, 5, .inl vCol))], [(aVa, .inl (tt 0, 4, .inl vVa))], [(aG, .inl (tt 0, nG, .inl vG))]])) A) ([.ref aT, .ref aG, .int p2] : List Value).toArray s 0 0 A) (F0 m 5 ls []) := by
    intro k5
    induction k5 with
    | zero => intro x3 x4 H locs ls hF; rw [hX13_codeBy_5] at hF; cases hF
    | succ k5 ih5 =>
      intro x3 x4 H locs ls hF hP hD hS hl
      rw [hX13_codeBy_5] at hF
      refine lv_iload hx hb dX13_codeBy_5 (lv_at hl 4 rfl) ?_
      refine lv_aload_n hx hb dX13_codeBy_7 rfl (lv_at hl 0 rfl) ?_
      obtain ⟨k_8, hk_8, hs_8⟩ := zS_one hP 0 rfl
      refine va_get (D := G) (ci := 12) (v := .ref aCol) (C := RX13) (T := TX13) (N := 8) hx hb hts hiX13 hown hK hP k_8 hk_8 rfl 0 (by decide) (hts (.fieldLink RX13 9 "LeapTablesLaw$Told" "columns" "[I") (List.mem_of_getElem? (i := 1) rfl)) (fun _ h9 => h9) rfl dX13_codeBy_8 ?_
      refine lv_aload_n hx hb dX13_codeBy_11 rfl (lv_at hl 1 rfl) ?_
      refine lv_iload_n hx hb dX13_codeBy_12 rfl (lv_at hl 2 rfl) ?_
      obtain ⟨h_13, hF⟩ := z_in hF
      obtain ⟨k_13, hk_13, hs_13⟩ := zS_one hP 3 rfl
      refine va_iald hx hb hK hP k_13 0 hk_13 rfl h_13 dX13_codeBy_13 ?_
      obtain ⟨h_14, hF⟩ := z_in hF
      obtain ⟨k_14, hk_14, hs_14⟩ := zS_one hP 1 rfl
      refine va_iald hx hb hK hP k_14 0 hk_14 rfl h_14 dX13_codeBy_14 ?_
      refine lv_icmp_ge (tgt := 48) hx hb dX13_codeBy_15 (by decide) (fun c_15 => ?_) (fun c_15 => ?_)
      · have hF := z_t c_15 hF
        refine lv_iload_n hx hb dX13_codeBy_48 rfl (lv_at hl 3 rfl) ?_
        have hp9 : (zW [[(aT, .inr (12, [.ref aCol, .int vTa, .ref aFa, .ref aRu, .int vRc, .ref aRo, .ref aLa, .ref aVa]))], [(aCol, .inl (tt 0, 5, .inl vCol))], [(aVa, .inl (tt 0, 4, .inl vVa))], [(aG, .inl (tt 0, nG, .inl vG))]]).Perm (zW [[(aT, .inr (12, [.ref aCol, .int vTa, .ref aFa, .ref aRu, .int vRc, .ref aRo, .ref aLa, .ref aVa]))], [(aCol, .inl (tt 0, 5, .inl vCol))], [(aVa, .inl (tt 0, 4, .inl vVa))], [(aG, .inl (tt 0, nG, .inl vG))]] ++ zW []) := zS_cut (is := [0, 1, 2, 3]) (js := []) 4 rfl rfl rfl (by decide)
        have hP9 : va_P G vwCl (zW [[(aT, .inr (12, [.ref aCol, .int vTa, .ref aFa, .ref aRu, .int vRc, .ref aRo, .ref aLa, .ref aVa]))], [(aCol, .inl (tt 0, 5, .inl vCol))], [(aVa, .inl (tt 0, 4, .inl vVa))], [(aG, .inl (tt 0, nG, .inl vG))]]) H := zS_subP hp9 hP
        have hD9 : va_D A (zW [[(aT, .inr (12, [.ref aCol, .int vTa, .ref aFa, .ref aRu, .int vRc, .ref aRo, .ref aLa, .ref aVa]))], [(aCol, .inl (tt 0, 5, .inl vCol))], [(aVa, .inl (tt 0, 4, .inl vVa))], [(aG, .inl (tt 0, nG, .inl vG))]]) := zS_subD hp9 hD
        have hR := Option.some.inj hF
        exact W.iret (v := x3) hx hb hr (fun t ht hW => ⟨⟨x3, (), rfl, (by subst hR; rfl), by rw [ht]; exact hP9, va_K.moved hW.alike hK, hD9⟩, hS.F ht⟩) hS.2.2 dX13_codeBy_49
      · have hF := z_f c_15 hF
        refine lv_iload_n hx hb dX13_codeBy_18 rfl (lv_at hl 3 rfl) ?_
        refine lv_aload_n hx hb dX13_codeBy_19 rfl (lv_at hl 0 rfl) ?_
        obtain ⟨k_20, hk_20, hs_20⟩ := zS_one hP 0 rfl
        refine va_get (D := G) (ci := 12) (v := .ref aVa) (C := RX13) (T := TX13) (N := 8) hx hb hts hiX13 hown hK hP k_20 hk_20 rfl 7 (by decide) (hts (.fieldLink RX13 35 "LeapTablesLaw$Told" "value" "[I") (List.mem_of_getElem? (i := 2) rfl)) (fun _ h9 => h9) rfl dX13_codeBy_20 ?_
        refine lv_aload_n hx hb dX13_codeBy_23 rfl (lv_at hl 1 rfl) ?_
        refine lv_iload_n hx hb dX13_codeBy_24 rfl (lv_at hl 2 rfl) ?_
        refine lv_iconst (v := (1 : Int32)) hx hb dX13_codeBy_25 (by decide) ?_
        refine lv_iadd hx hb dX13_codeBy_26 ?_
        refine lv_iload hx hb dX13_codeBy_27 (lv_at hl 4 rfl) ?_
        refine lv_iadd hx hb dX13_codeBy_29 ?_
        obtain ⟨h_30, hF⟩ := z_in hF
        obtain ⟨k_30, hk_30, hs_30⟩ := zS_one hP 3 rfl
        refine va_iald hx hb hK hP k_30 0 hk_30 rfl h_30 dX13_codeBy_30 ?_
        obtain ⟨h_31, hF⟩ := z_in hF
        obtain ⟨k_31, hk_31, hs_31⟩ := zS_one hP 2 rfl
        refine va_iald hx hb hK hP k_31 0 hk_31 rfl h_31 dX13_codeBy_31 ?_
        refine lv_bipush (v := (6 : Int32)) hx hb dX13_codeBy_32 (by decide) ?_
        refine lv_iconst (v := (3 : Int32)) hx hb dX13_codeBy_34 (by decide) ?_
        refine lv_iload hx hb dX13_codeBy_35 (lv_at hl 4 rfl) ?_
        refine lv_imul hx hb dX13_codeBy_37 ?_
        refine lv_isub hx hb dX13_codeBy_38 ?_
        refine lv_ishl hx hb dX13_codeBy_39 ?_
        refine lv_ior hx hb dX13_codeBy_40 ?_
        refine lv_istore_n (lv' := [(3, .int (x3 ||| ((vVa (vG ((p2 + (1 : Int32)) + x4).toNatClampNeg).toNatClampNeg) <<< (((6 : Int32) - ((3 : Int32) * x4)) &&& 31)))), (0, .ref aT), (1, .ref aG), (2, .int p2), (4, .int x4)]) hx hb dX13_codeBy_41 rfl hl (by decide) rfl (fun ls hl => ?_)
        refine lv_iinc (v := (x4 + (1 : Int32))) (lv' := [(4, .int (x4 + (1 : Int32))), (3, .int (x3 ||| ((vVa (vG ((p2 + (1 : Int32)) + x4).toNatClampNeg).toNatClampNeg) <<< (((6 : Int32) - ((3 : Int32) * x4)) &&& 31)))), (0, .ref aT), (1, .ref aG), (2, .int p2)]) hx hb dX13_codeBy_42 hl (k := 4) rfl rfl (by decide) rfl (fun ls hl => ?_)
        refine lv_goto (tgt := 5) hx hb dX13_codeBy_45 (by decide) ?_
        exact ih5 _ _ _ _ _ hF hP hD hS (lv_sub hl [2, 3, 4, 1, 0] rfl)
  obtain ⟨H, hHe⟩ : ∃ H : Heap, s.heap = H := ⟨_, rfl⟩
  have hS : va_S A s.heap H [] := by rw [← hHe]; exact va_S.rf
  rw [hHe] at hP ⊢
  unfold hX13_codeBy at hF
  refine lv_iconst (v := (0 : Int32)) hx hb dX13_codeBy_0 (by decide) ?_
  refine lv_istore_n (lv' := [(3, .int (0 : Int32)), (0, .ref aT), (1, .ref aG), (2, .int p2)]) hx hb dX13_codeBy_1 rfl hl (by decide) rfl (fun ls hl => ?_)
  refine lv_iconst (v := (0 : Int32)) hx hb dX13_codeBy_2 (by decide) ?_
  refine lv_istore (lv' := [(4, .int (0 : Int32)), (3, .int (0 : Int32)), (0, .ref aT), (1, .ref aG), (2, .int p2)]) hx hb dX13_codeBy_3 hl (by decide) rfl (fun ls hl => ?_)
  exact hb5 K _ _ _ _ _ hF hP hD hS (lv_sub hl [2, 3, 4, 1, 0] rfl)

set_option maxHeartbeats 8000000 in
set_option maxRecDepth 100000 in
theorem oX13_variables (l : Launch) (G : va_G) (tt : Nat → ClassId) (sa : Nat → Nat) (hlt : l.stackTraces = false) (sz : Nat) (K : Nat) (nG : Nat) (aT : Nat) (aCol : Nat) (aFa : Nat) (aRu : Nat) (aRo : Nat) (aLa : Nat) (aVa : Nat) (aG : Nat) (vTa : Int32) (vRc : Int32) (vCol : Nat → Int32) (vG : Nat → Int32) (p2 : Int32) (RR : Int32) (hF : hX13_variables K nG vCol vG p2 = some RR) : Met l yX13_variables wsX13_variables ({ frames := 1, cells := 0, slots := 0, locals := 60 } : Room) (zPreQ G (zTy tt) sa [.ref aT, .ref aG, .int p2] sz (zW [[(aT, .inr (12, [.ref aCol, .int vTa, .ref aFa, .ref aRu, .int vRc, .ref aRo, .ref aLa, .ref aVa]))], [(aCol, .inl (tt 0, 5, .inl vCol))], [(aG, .inl (tt 0, nG, .inl vG))]])) (va_Qi (fun (r : Int32) (_ : Unit) => r = RR) (zAt G (zTy tt) (va_A (zW [[(aT, .inr (12, [.ref aCol, .int vTa, .ref aFa, .ref aRu, .int vRc, .ref aRo, .ref aLa, .ref aVa]))], [(aCol, .inl (tt 0, 5, .inl vCol))], [(aG, .inl (tt 0, nG, .inl vG))]]) sz) (fun _ : Unit => zW [[(aT, .inr (12, [.ref aCol, .int vTa, .ref aFa, .ref aRu, .int vRc, .ref aRo, .ref aLa, .ref aVa]))], [(aCol, .inl (tt 0, 5, .inl vCol))], [(aG, .inl (tt 0, nG, .inl vG))]])) (va_A (zW [[(aT, .inr (12, [.ref aCol, .int vTa, .ref aFa, .ref aRu, .int vRc, .ref aRo, .ref aLa, .ref aVa]))], [(aCol, .inl (tt 0, 5, .inl vCol))], [(aG, .inl (tt 0, nG, .inl vG))]]) sz)) 0 0 (va_A (zW [[(aT, .inr (12, [.ref aCol, .int vTa, .ref aFa, .ref aRu, .int vRc, .ref aRo, .ref aLa, .ref aVa]))], [(aCol, .inl (tt 0, 5, .inl vCol))], [(aG, .inl (tt 0, nG, .inl vG))]]) sz) := by
  refine Met.ofW (cc := cX13_variables) (maxL := 5) (ret := (some .int)) (by decide +kernel) rfl ?_
  intro p e s m args below meth c s₁ B hml hv
  obtain ⟨rfl, hsz, hP, hK, hD0, hN, hX, hO, hAA⟩ := hv
  have hx := B.exec
  have hb := B.bytes
  have hr := B.returns
  have hts := atoms_spec (ws := wsX13_variables) B.pre
  have hown : s.vm.findClass RX13 = some m.cls := findClass_of_methodNamed B.named
  have hlocks := B.notSynchronized
  subst hsz
  have hD := hD0.self (sz := s.heap.size)
  generalize hAe : va_A (zW [[(aT, .inr (12, [.ref aCol, .int vTa, .ref aFa, .ref aRu, .int vRc, .ref aRo, .ref aLa, .ref aVa]))], [(aCol, .inl (tt 0, 5, .inl vCol))], [(aG, .inl (tt 0, nG, .inl vG))]]) s.heap.size = A at hD hX ⊢
  have hA : ∀ q : Nat, s.heap.size ≤ q → A q := fun q h => by rw [← hAe]; exact Or.inr h
  have hP : va_P G vwCl (zW [[(aT, .inr (12, [.ref aCol, .int vTa, .ref aFa, .ref aRu, .int vRc, .ref aRo, .ref aLa, .ref aVa]))], [(aCol, .inl (tt 0, 5, .inl vCol))], [(aG, .inl (tt 0, nG, .inl vG))]]) s.heap := hP
  have hiX13 : ∀ w ∈ wsX130, w ∈ wsX13_variables := by decide +kernel
  have hl := lv_entry ([.ref aT, .ref aG, .int p2]) (n := 5) (Nat.le_of_ble_eq_true rfl)
  rw [lg_entry_eq]
  generalize (lg_sl ([.ref aT, .ref aG, .int p2]) ++ List.replicate (5 - (lg_sl ([.ref aT, .ref aG, .int p2])).length) Slot.unset).toArray = ls at hl ⊢
  have hl : lv_has ls 5 [(0, .ref aT), (1, .ref aG), (2, .int p2)] := hl
  have hb5 : ∀ (k5 : Nat), ∀ (x3 : Int32) (x4 : Int32)  (H : Heap) (locs : List Loc) (ls : Array Slot), hX13_variables_5 K nG vCol vG p2 k5 x3 x4 = some RR → va_P G vwCl (zW [[(aT, .inr (12, [.ref aCol, .int vTa, .ref aFa, .ref aRu, .int vRc, .ref aRo, .ref aLa, .ref aVa]))], [(aCol, .inl (tt 0, 5, .inl vCol))], [(aG, .inl (tt 0, nG, .inl vG))]]) H → va_D A (zW [[(aT, .inr (12, [.ref aCol, .int vTa, .ref aFa, .ref aRu, .int vRc, .ref aRo, .ref aLa, .ref aVa]))], [(aCol, .inl (tt 0, 5, .inl vCol))], [(aG, .inl (tt 0, nG, .inl vG))]]) → va_S A s.heap H locs → lv_has ls 5 [(0, .ref aT), (1, .ref aG), (2, .int p2), (3, .int x3), (4, .int x4)] → W p l e (headSpec wsX13_variables ({ frames := 1, cells := 0, slots := 0, locals := 60 } : Room)).room s m ([.ref aT, .ref aG, .int p2] : List Value).toArray below meth c H locs 0 0 (MQ below (va_Qi (fun (r : Int32) (_ : Unit) => r = RR) (zAt G (zTy tt) A (fun _ : Unit => zW [[(aT, .inr (12, [.ref aCol, .int vTa, .ref aFa, .ref aRu, .int vRc, .ref aRo, .ref aLa, .ref aVa]))], [(aCol, .inl (tt 0, 5, .inl vCol))], [(aG, .inl (tt 0, nG, .inl vG))]])) A) ([.ref aT, .ref aG, .int p2] : List Value).toArray s 0 0 A) (F0 m 5 ls []) := by
    intro k5
    induction k5 with
    | zero => intro x3 x4 H locs ls hF; rw [hX13_variables_5] at hF; cases hF
    | succ k5 ih5 =>
      intro x3 x4 H locs ls hF hP hD hS hl
      rw [hX13_variables_5] at hF
      refine lv_iload hx hb dX13_variables_5 (lv_at hl 4 rfl) ?_
      refine lv_aload_n hx hb dX13_variables_7 rfl (lv_at hl 0 rfl) ?_
      obtain ⟨k_8, hk_8, hs_8⟩ := zS_one hP 0 rfl
      refine va_get (D := G) (ci := 12) (v := .ref aCol) (C := RX13) (T := TX13) (N := 8) hx hb hts hiX13 hown hK hP k_8 hk_8 rfl 0 (by decide) (hts (.fieldLink RX13 9 "LeapTablesLaw$Told" "columns" "[I") (List.mem_of_getElem? (i := 1) rfl)) (fun _ h9 => h9) rfl dX13_variables_8 ?_
      refine lv_aload_n hx hb dX13_variables_11 rfl (lv_at hl 1 rfl) ?_
      refine lv_iload_n hx hb dX13_variables_12 rfl (lv_at hl 2 rfl) ?_
      obtain ⟨h_13, hF⟩ := z_in hF
      obtain ⟨k_13, hk_13, hs_13⟩ := zS_one hP 2 rfl
      refine va_iald hx hb hK hP k_13 0 hk_13 rfl h_13 dX13_variables_13 ?_
      obtain ⟨h_14, hF⟩ := z_in hF
      obtain ⟨k_14, hk_14, hs_14⟩ := zS_one hP 1 rfl
      refine va_iald hx hb hK hP k_14 0 hk_14 rfl h_14 dX13_variables_14 ?_
      refine lv_icmp_ge (tgt := 37) hx hb dX13_variables_15 (by decide) (fun c_15 => ?_) (fun c_15 => ?_)
      · have hF := z_t c_15 hF
        refine lv_iload_n hx hb dX13_variables_37 rfl (lv_at hl 3 rfl) ?_
        have hp9 : (zW [[(aT, .inr (12, [.ref aCol, .int vTa, .ref aFa, .ref aRu, .int vRc, .ref aRo, .ref aLa, .ref aVa]))], [(aCol, .inl (tt 0, 5, .inl vCol))], [(aG, .inl (tt 0, nG, .inl vG))]]).Perm (zW [[(aT, .inr (12, [.ref aCol, .int vTa, .ref aFa, .ref aRu, .int vRc, .ref aRo, .ref aLa, .ref aVa]))], [(aCol, .inl (tt 0, 5, .inl vCol))], [(aG, .inl (tt 0, nG, .inl vG))]] ++ zW []) := zS_cut (is := [0, 1, 2]) (js := []) 3 rfl rfl rfl (by decide)
        have hP9 : va_P G vwCl (zW [[(aT, .inr (12, [.ref aCol, .int vTa, .ref aFa, .ref aRu, .int vRc, .ref aRo, .ref aLa, .ref aVa]))], [(aCol, .inl (tt 0, 5, .inl vCol))], [(aG, .inl (tt 0, nG, .inl vG))]]) H := zS_subP hp9 hP
        have hD9 : va_D A (zW [[(aT, .inr (12, [.ref aCol, .int vTa, .ref aFa, .ref aRu, .int vRc, .ref aRo, .ref aLa, .ref aVa]))], [(aCol, .inl (tt 0, 5, .inl vCol))], [(aG, .inl (tt 0, nG, .inl vG))]]) := zS_subD hp9 hD
        have hR := Option.some.inj hF
        exact W.iret (v := x3) hx hb hr (fun t ht hW => ⟨⟨x3, (), rfl, (by subst hR; rfl), by rw [ht]; exact hP9, va_K.moved hW.alike hK, hD9⟩, hS.F ht⟩) hS.2.2 dX13_variables_38
      · have hF := z_f c_15 hF
        refine lv_iload_n hx hb dX13_variables_18 rfl (lv_at hl 3 rfl) ?_
        refine lv_iconst (v := (1 : Int32)) hx hb dX13_variables_19 (by decide) ?_
        refine lv_aload_n hx hb dX13_variables_20 rfl (lv_at hl 1 rfl) ?_
        refine lv_iload_n hx hb dX13_variables_21 rfl (lv_at hl 2 rfl) ?_
        refine lv_iconst (v := (1 : Int32)) hx hb dX13_variables_22 (by decide) ?_
        refine lv_iadd hx hb dX13_variables_23 ?_
        refine lv_iload hx hb dX13_variables_24 (lv_at hl 4 rfl) ?_
        refine lv_iadd hx hb dX13_variables_26 ?_
        obtain ⟨h_27, hF⟩ := z_in hF
        obtain ⟨k_27, hk_27, hs_27⟩ := zS_one hP 2 rfl
        refine va_iald hx hb hK hP k_27 0 hk_27 rfl h_27 dX13_variables_27 ?_
        refine lv_ishl hx hb dX13_variables_28 ?_
        refine lv_ior hx hb dX13_variables_29 ?_
        refine lv_istore_n (lv' := [(3, .int (x3 ||| ((1 : Int32) <<< ((vG ((p2 + (1 : Int32)) + x4).toNatClampNeg) &&& 31)))), (0, .ref aT), (1, .ref aG), (2, .int p2), (4, .int x4)]) hx hb dX13_variables_30 rfl hl (by decide) rfl (fun ls hl => ?_)
        refine lv_iinc (v := (x4 + (1 : Int32))) (lv' := [(4, .int (x4 + (1 : Int32))), (3, .int (x3 ||| ((1 : Int32) <<< ((vG ((p2 + (1 : Int32)) + x4).toNatClampNeg) &&& 31)))), (0, .ref aT), (1, .ref aG), (2, .int p2)]) hx hb dX13_variables_31 hl (k := 4) rfl rfl (by decide) rfl (fun ls hl => ?_)
        refine lv_goto (tgt := 5) hx hb dX13_variables_34 (by decide) ?_
        exact ih5 _ _ _ _ _ hF hP hD hS (lv_sub hl [2, 3, 4, 1, 0] rfl)
  obtain ⟨H, hHe⟩ : ∃ H : Heap, s.heap = H := ⟨_, rfl⟩
  have hS : va_S A s.heap H [] := by rw [← hHe]; exact va_S.rf
  rw [hHe] at hP ⊢
  unfold hX13_variables at hF
  refine lv_iconst (v := (0 : Int32)) hx hb dX13_variables_0 (by decide) ?_
  refine lv_istore_n (lv' := [(3, .int (0 : Int32)), (0, .ref aT), (1, .ref aG), (2, .int p2)]) hx hb dX13_variables_1 rfl hl (by decide) rfl (fun ls hl => ?_)
  refine lv_iconst (v := (0 : Int32)) hx hb dX13_variables_2 (by decide) ?_
  refine lv_istore (lv' := [(4, .int (0 : Int32)), (3, .int (0 : Int32)), (0, .ref aT), (1, .ref aG), (2, .int p2)]) hx hb dX13_variables_3 hl (by decide) rfl (fun ls hl => ?_)
  exact hb5 K _ _ _ _ _ hF hP hD hS (lv_sub hl [2, 3, 4, 1, 0] rfl)

set_option maxHeartbeats 8000000 in
set_option maxRecDepth 100000 in
theorem oX13_fits (l : Launch) (G : va_G) (tt : Nat → ClassId) (sa : Nat → Nat) (hlt : l.stackTraces = false) (sz : Nat) (K : Nat) (nG : Nat) (aT : Nat) (aCol : Nat) (aFa : Nat) (aRu : Nat) (aRo : Nat) (aLa : Nat) (aVa : Nat) (eRo : Nat → Nat) (aG : Nat) (vTa : Int32) (vRc : Int32) (vCol : Nat → Int32) (vRo : Nat → Nat → Int32) (vVa : Nat → Int32) (vG : Nat → Int32) (p2 : Int32) (RR : Bool) (hF : hX13_fits K nG vCol vRo vVa vG p2 = some RR) : Met l yX13_fits wsX13_fits ({ frames := 2, cells := 0, slots := 0, locals := 84 } : Room) (zPreQ G (zTy tt) sa [.ref aT, .ref aG, .int p2] sz (zW [[(aT, .inr (12, [.ref aCol, .int vTa, .ref aFa, .ref aRu, .int vRc, .ref aRo, .ref aLa, .ref aVa]))], [(aCol, .inl (tt 0, 5, .inl vCol))], [(aRo, .inl (tt 6, 5, .inr (.inr (.inr (.inr (fun j => some (eRo j)))))))], (wA eRo (tt 2) 5 512 vRo), [(aVa, .inl (tt 0, 4, .inl vVa))], [(aG, .inl (tt 0, nG, .inl vG))]])) (va_Qi (fun (r : Int32) (_ : Unit) => r = bI RR) (zAt G (zTy tt) (va_A (zW [[(aT, .inr (12, [.ref aCol, .int vTa, .ref aFa, .ref aRu, .int vRc, .ref aRo, .ref aLa, .ref aVa]))], [(aCol, .inl (tt 0, 5, .inl vCol))], [(aRo, .inl (tt 6, 5, .inr (.inr (.inr (.inr (fun j => some (eRo j)))))))], (wA eRo (tt 2) 5 512 vRo), [(aVa, .inl (tt 0, 4, .inl vVa))], [(aG, .inl (tt 0, nG, .inl vG))]]) sz) (fun _ : Unit => zW [[(aT, .inr (12, [.ref aCol, .int vTa, .ref aFa, .ref aRu, .int vRc, .ref aRo, .ref aLa, .ref aVa]))], [(aCol, .inl (tt 0, 5, .inl vCol))], [(aRo, .inl (tt 6, 5, .inr (.inr (.inr (.inr (fun j => some (eRo j)))))))], (wA eRo (tt 2) 5 512 vRo), [(aVa, .inl (tt 0, 4, .inl vVa))], [(aG, .inl (tt 0, nG, .inl vG))]])) (va_A (zW [[(aT, .inr (12, [.ref aCol, .int vTa, .ref aFa, .ref aRu, .int vRc, .ref aRo, .ref aLa, .ref aVa]))], [(aCol, .inl (tt 0, 5, .inl vCol))], [(aRo, .inl (tt 6, 5, .inr (.inr (.inr (.inr (fun j => some (eRo j)))))))], (wA eRo (tt 2) 5 512 vRo), [(aVa, .inl (tt 0, 4, .inl vVa))], [(aG, .inl (tt 0, nG, .inl vG))]]) sz)) 0 0 (va_A (zW [[(aT, .inr (12, [.ref aCol, .int vTa, .ref aFa, .ref aRu, .int vRc, .ref aRo, .ref aLa, .ref aVa]))], [(aCol, .inl (tt 0, 5, .inl vCol))], [(aRo, .inl (tt 6, 5, .inr (.inr (.inr (.inr (fun j => some (eRo j)))))))], (wA eRo (tt 2) 5 512 vRo), [(aVa, .inl (tt 0, 4, .inl vVa))], [(aG, .inl (tt 0, nG, .inl vG))]]) sz) := by
  refine Met.ofW (cc := cX13_fits) (maxL := 3) (ret := (some .boolean)) (by decide +kernel) rfl ?_
  intro p e s m args below meth c s₁ B hml hv
  obtain ⟨rfl, hsz, hP, hK, hD0, hN, hX, hO, hAA⟩ := hv
  have hx := B.exec
  have hb := B.bytes
  have hr := B.returns
  have hts := atoms_spec (ws := wsX13_fits) B.pre
  have hown : s.vm.findClass RX13 = some m.cls := findClass_of_methodNamed B.named
  have hlocks := B.notSynchronized
  subst hsz
  have hD := hD0.self (sz := s.heap.size)
  generalize hAe : va_A (zW [[(aT, .inr (12, [.ref aCol, .int vTa, .ref aFa, .ref aRu, .int vRc, .ref aRo, .ref aLa, .ref aVa]))], [(aCol, .inl (tt 0, 5, .inl vCol))], [(aRo, .inl (tt 6, 5, .inr (.inr (.inr (.inr (fun j => some (eRo j)))))))], (wA eRo (tt 2) 5 512 vRo), [(aVa, .inl (tt 0, 4, .inl vVa))], [(aG, .inl (tt 0, nG, .inl vG))]]) s.heap.size = A at hD hX ⊢
  have hA : ∀ q : Nat, s.heap.size ≤ q → A q := fun q h => by rw [← hAe]; exact Or.inr h
  have hP : va_P G vwCl (zW [[(aT, .inr (12, [.ref aCol, .int vTa, .ref aFa, .ref aRu, .int vRc, .ref aRo, .ref aLa, .ref aVa]))], [(aCol, .inl (tt 0, 5, .inl vCol))], [(aRo, .inl (tt 6, 5, .inr (.inr (.inr (.inr (fun j => some (eRo j)))))))], (wA eRo (tt 2) 5 512 vRo), [(aVa, .inl (tt 0, 4, .inl vVa))], [(aG, .inl (tt 0, nG, .inl vG))]]) s.heap := hP
  have hiX13 : ∀ w ∈ wsX130, w ∈ wsX13_fits := by decide +kernel
  have hl := lv_entry ([.ref aT, .ref aG, .int p2]) (n := 3) (Nat.le_of_ble_eq_true rfl)
  rw [lg_entry_eq]
  generalize (lg_sl ([.ref aT, .ref aG, .int p2]) ++ List.replicate (3 - (lg_sl ([.ref aT, .ref aG, .int p2])).length) Slot.unset).toArray = ls at hl ⊢
  have hl : lv_has ls 3 [(0, .ref aT), (1, .ref aG), (2, .int p2)] := hl
  obtain ⟨H, hHe⟩ : ∃ H : Heap, s.heap = H := ⟨_, rfl⟩
  have hS : va_S A s.heap H [] := by rw [← hHe]; exact va_S.rf
  rw [hHe] at hP ⊢
  unfold hX13_fits at hF
  refine lv_aload_n hx hb dX13_fits_0 rfl (lv_at hl 0 rfl) ?_
  obtain ⟨k_1, hk_1, hs_1⟩ := zS_one hP 0 rfl
  refine va_get (D := G) (ci := 12) (v := .ref aRo) (C := RX13) (T := TX13) (N := 8) hx hb hts hiX13 hown hK hP k_1 hk_1 rfl 5 (by decide) (hts (.fieldLink RX13 29 "LeapTablesLaw$Told" "rows" "[[Z") (List.mem_of_getElem? (i := 1) rfl)) (fun _ h9 => h9) rfl dX13_fits_1 ?_
  refine lv_aload_n hx hb dX13_fits_4 rfl (lv_at hl 1 rfl) ?_
  refine lv_iload_n hx hb dX13_fits_5 rfl (lv_at hl 2 rfl) ?_
  obtain ⟨h_6, hF⟩ := z_in hF
  obtain ⟨k_6, hk_6, hs_6⟩ := zS_one hP 5 rfl
  refine va_iald hx hb hK hP k_6 0 hk_6 rfl h_6 dX13_fits_6 ?_
  obtain ⟨h_7, hF⟩ := z_in hF
  obtain ⟨k_7, hk_7, hs_7⟩ := zS_one hP 2 rfl
  refine zA_aald (f := eRo) hx hb hK hP k_7 6 hk_7 rfl h_7 dX13_fits_7 ?_
  refine lv_aload_n hx hb dX13_fits_8 rfl (lv_at hl 0 rfl) ?_
  refine lv_aload_n hx hb dX13_fits_9 rfl (lv_at hl 1 rfl) ?_
  refine lv_iload_n hx hb dX13_fits_10 rfl (lv_at hl 2 rfl) ?_
  obtain ⟨q11, hc_11, hF⟩ := z_bind hF
  have hp_11 : (zW [[(aT, .inr (12, [.ref aCol, .int vTa, .ref aFa, .ref aRu, .int vRc, .ref aRo, .ref aLa, .ref aVa]))], [(aCol, .inl (tt 0, 5, .inl vCol))], [(aRo, .inl (tt 6, 5, .inr (.inr (.inr (.inr (fun j => some (eRo j)))))))], (wA eRo (tt 2) 5 512 vRo), [(aVa, .inl (tt 0, 4, .inl vVa))], [(aG, .inl (tt 0, nG, .inl vG))]]).Perm (zW [[(aT, .inr (12, [.ref aCol, .int vTa, .ref aFa, .ref aRu, .int vRc, .ref aRo, .ref aLa, .ref aVa]))], [(aCol, .inl (tt 0, 5, .inl vCol))], [(aVa, .inl (tt 0, 4, .inl vVa))], [(aG, .inl (tt 0, nG, .inl vG))]] ++ zW [[(aRo, .inl (tt 6, 5, .inr (.inr (.inr (.inr (fun j => some (eRo j)))))))], (wA eRo (tt 2) 5 512 vRo)]) := zS_cut (is := [0, 1, 4, 5]) (js := [2, 3]) 6 rfl rfl rfl (by decide)
  refine s_backi (s_goV (As := [.ref aG, .int p2]) (rest := [.ref (eRo ((vG p2.toNatClampNeg).toNatClampNeg))]) (ci := 12) ⟨hx, hb, hml, hown, hts⟩ hK hN hX hO hAA hp_11 hP hD hS hA (oX13_codeBy l G tt sa hlt H.size K nG aT aCol aFa aRu aRo aLa aVa aG vTa vRc vCol vVa vG p2 q11 hc_11) (cwV 2 hts gX13_fits_X13_codeBy rfl rfl rfl (by decide +kernel) ⟨Nat.le_of_ble_eq_true rfl, Nat.le_of_ble_eq_true rfl⟩) rfl rfl rfl hl.1 rfl (Nat.le_of_ble_eq_true rfl) dX13_fits_11 ⟨Nat.le_of_ble_eq_true rfl, Nat.le_of_ble_eq_true rfl⟩) hp_11 hP hD hS hA (fun r_11 u H locs hw hP hD hS => ?_)
  replace hw := hw.symm; subst hw
  have hP : va_P G vwCl (zW [[(aRo, .inl (tt 6, 5, .inr (.inr (.inr (.inr (fun j => some (eRo j)))))))], (wA eRo (tt 2) 5 512 vRo), [(aT, .inr (12, [.ref aCol, .int vTa, .ref aFa, .ref aRu, .int vRc, .ref aRo, .ref aLa, .ref aVa]))], [(aCol, .inl (tt 0, 5, .inl vCol))], [(aVa, .inl (tt 0, 4, .inl vVa))], [(aG, .inl (tt 0, nG, .inl vG))]]) H := hP
  have hD : va_D A (zW [[(aRo, .inl (tt 6, 5, .inr (.inr (.inr (.inr (fun j => some (eRo j)))))))], (wA eRo (tt 2) 5 512 vRo), [(aT, .inr (12, [.ref aCol, .int vTa, .ref aFa, .ref aRu, .int vRc, .ref aRo, .ref aLa, .ref aVa]))], [(aCol, .inl (tt 0, 5, .inl vCol))], [(aVa, .inl (tt 0, 4, .inl vVa))], [(aG, .inl (tt 0, nG, .inl vG))]]) := hD
  obtain ⟨h_14, hF⟩ := z_in hF
  obtain ⟨k_14, hk_14, hs_14⟩ := zS_fam hP 1 rfl (zlt_of h_7)
  refine va_zald hx hb hK hP k_14 2 hk_14 rfl h_14 dX13_fits_14 ?_
  have hp9 : (zW [[(aRo, .inl (tt 6, 5, .inr (.inr (.inr (.inr (fun j => some (eRo j)))))))], (wA eRo (tt 2) 5 512 vRo), [(aT, .inr (12, [.ref aCol, .int vTa, .ref aFa, .ref aRu, .int vRc, .ref aRo, .ref aLa, .ref aVa]))], [(aCol, .inl (tt 0, 5, .inl vCol))], [(aVa, .inl (tt 0, 4, .inl vVa))], [(aG, .inl (tt 0, nG, .inl vG))]]).Perm (zW [[(aT, .inr (12, [.ref aCol, .int vTa, .ref aFa, .ref aRu, .int vRc, .ref aRo, .ref aLa, .ref aVa]))], [(aCol, .inl (tt 0, 5, .inl vCol))], [(aRo, .inl (tt 6, 5, .inr (.inr (.inr (.inr (fun j => some (eRo j)))))))], (wA eRo (tt 2) 5 512 vRo), [(aVa, .inl (tt 0, 4, .inl vVa))], [(aG, .inl (tt 0, nG, .inl vG))]] ++ zW []) := zS_cut (is := [2, 3, 0, 1, 4, 5]) (js := []) 6 rfl rfl rfl (by decide)
  have hP9 : va_P G vwCl (zW [[(aT, .inr (12, [.ref aCol, .int vTa, .ref aFa, .ref aRu, .int vRc, .ref aRo, .ref aLa, .ref aVa]))], [(aCol, .inl (tt 0, 5, .inl vCol))], [(aRo, .inl (tt 6, 5, .inr (.inr (.inr (.inr (fun j => some (eRo j)))))))], (wA eRo (tt 2) 5 512 vRo), [(aVa, .inl (tt 0, 4, .inl vVa))], [(aG, .inl (tt 0, nG, .inl vG))]]) H := zS_subP hp9 hP
  have hD9 : va_D A (zW [[(aT, .inr (12, [.ref aCol, .int vTa, .ref aFa, .ref aRu, .int vRc, .ref aRo, .ref aLa, .ref aVa]))], [(aCol, .inl (tt 0, 5, .inl vCol))], [(aRo, .inl (tt 6, 5, .inr (.inr (.inr (.inr (fun j => some (eRo j)))))))], (wA eRo (tt 2) 5 512 vRo), [(aVa, .inl (tt 0, 4, .inl vVa))], [(aG, .inl (tt 0, nG, .inl vG))]]) := zS_subD hp9 hD
  refine lv_topi (fun y_15 ey_15 => ?_)
  rcases z_bool hF with ⟨eb, hF⟩ | ⟨eb, hF⟩
  · have ez := ey_15.trans eb
    subst ez
    have hR := Option.some.inj hF
    exact W.zret (v := (0 : Int32)) hx hb hr rfl (fun t ht hW => ⟨⟨(0 : Int32), (), rfl, (by subst hR; rfl), by rw [ht]; exact hP9, va_K.moved hW.alike hK, hD9⟩, hS.F ht⟩) hS.2.2 dX13_fits_15
  · have ez := ey_15.trans eb
    subst ez
    have hR := Option.some.inj hF
    exact W.zret (v := (1 : Int32)) hx hb hr rfl (fun t ht hW => ⟨⟨(1 : Int32), (), rfl, (by subst hR; rfl), by rw [ht]; exact hP9, va_K.moved hW.alike hK, hD9⟩, hS.F ht⟩) hS.2.2 dX13_fits_15

set_option maxHeartbeats 8000000 in
set_option maxRecDepth 100000 in
theorem oX13_variablesOf (l : Launch) (G : va_G) (tt : Nat → ClassId) (sa : Nat → Nat) (hlt : l.stackTraces = false) (sz : Nat) (K : Nat) (aT : Nat) (aCol : Nat) (aFa : Nat) (aRu : Nat) (aRo : Nat) (aLa : Nat) (aVa : Nat) (eRu : Nat → Nat) (vTa : Int32) (vRc : Int32) (vCol : Nat → Int32) (vRu : Nat → Nat → Int32) (p1 : Int32) (p2 : Int32) (RR : Int32) (hF : hX13_variablesOf K vCol vRu p1 p2 = some RR) : Met l yX13_variablesOf wsX13_variablesOf ({ frames := 2, cells := 0, slots := 0, locals := 84 } : Room) (zPreQ G (zTy tt) sa [.ref aT, .int p1, .int p2] sz (zW [[(aT, .inr (12, [.ref aCol, .int vTa, .ref aFa, .ref aRu, .int vRc, .ref aRo, .ref aLa, .ref aVa]))], [(aCol, .inl (tt 0, 5, .inl vCol))], [(aRu, .inl (tt 5, 5, .inr (.inr (.inr (.inr (fun j => some (eRu j)))))))], (wA eRu (tt 0) 5 25 vRu)])) (va_Qi (fun (r : Int32) (_ : Unit) => r = RR) (zAt G (zTy tt) (va_A (zW [[(aT, .inr (12, [.ref aCol, .int vTa, .ref aFa, .ref aRu, .int vRc, .ref aRo, .ref aLa, .ref aVa]))], [(aCol, .inl (tt 0, 5, .inl vCol))], [(aRu, .inl (tt 5, 5, .inr (.inr (.inr (.inr (fun j => some (eRu j)))))))], (wA eRu (tt 0) 5 25 vRu)]) sz) (fun _ : Unit => zW [[(aT, .inr (12, [.ref aCol, .int vTa, .ref aFa, .ref aRu, .int vRc, .ref aRo, .ref aLa, .ref aVa]))], [(aCol, .inl (tt 0, 5, .inl vCol))], [(aRu, .inl (tt 5, 5, .inr (.inr (.inr (.inr (fun j => some (eRu j)))))))], (wA eRu (tt 0) 5 25 vRu)])) (va_A (zW [[(aT, .inr (12, [.ref aCol, .int vTa, .ref aFa, .ref aRu, .int vRc, .ref aRo, .ref aLa, .ref aVa]))], [(aCol, .inl (tt 0, 5, .inl vCol))], [(aRu, .inl (tt 5, 5, .inr (.inr (.inr (.inr (fun j => some (eRu j)))))))], (wA eRu (tt 0) 5 25 vRu)]) sz)) 0 0 (va_A (zW [[(aT, .inr (12, [.ref aCol, .int vTa, .ref aFa, .ref aRu, .int vRc, .ref aRo, .ref aLa, .ref aVa]))], [(aCol, .inl (tt 0, 5, .inl vCol))], [(aRu, .inl (tt 5, 5, .inr (.inr (.inr (.inr (fun j => some (eRu j)))))))], (wA eRu (tt 0) 5 25 vRu)]) sz) := by
  refine Met.ofW (cc := cX13_variablesOf) (maxL := 5) (ret := (some .int)) (by decide +kernel) rfl ?_
  intro p e s m args below meth c s₁ B hml hv
  obtain ⟨rfl, hsz, hP, hK, hD0, hN, hX, hO, hAA⟩ := hv
  have hx := B.exec
  have hb := B.bytes
  have hr := B.returns
  have hts := atoms_spec (ws := wsX13_variablesOf) B.pre
  have hown : s.vm.findClass RX13 = some m.cls := findClass_of_methodNamed B.named
  have hlocks := B.notSynchronized
  subst hsz
  have hD := hD0.self (sz := s.heap.size)
  generalize hAe : va_A (zW [[(aT, .inr (12, [.ref aCol, .int vTa, .ref aFa, .ref aRu, .int vRc, .ref aRo, .ref aLa, .ref aVa]))], [(aCol, .inl (tt 0, 5, .inl vCol))], [(aRu, .inl (tt 5, 5, .inr (.inr (.inr (.inr (fun j => some (eRu j)))))))], (wA eRu (tt 0) 5 25 vRu)]) s.heap.size = A at hD hX ⊢
  have hA : ∀ q : Nat, s.heap.size ≤ q → A q := fun q h => by rw [← hAe]; exact Or.inr h
  have hP : va_P G vwCl (zW [[(aT, .inr (12, [.ref aCol, .int vTa, .ref aFa, .ref aRu, .int vRc, .ref aRo, .ref aLa, .ref aVa]))], [(aCol, .inl (tt 0, 5, .inl vCol))], [(aRu, .inl (tt 5, 5, .inr (.inr (.inr (.inr (fun j => some (eRu j)))))))], (wA eRu (tt 0) 5 25 vRu)]) s.heap := hP
  have hiX13 : ∀ w ∈ wsX130, w ∈ wsX13_variablesOf := by decide +kernel
  have hl := lv_entry ([.ref aT, .int p1, .int p2]) (n := 5) (Nat.le_of_ble_eq_true rfl)
  rw [lg_entry_eq]
  generalize (lg_sl ([.ref aT, .int p1, .int p2]) ++ List.replicate (5 - (lg_sl ([.ref aT, .int p1, .int p2])).length) Slot.unset).toArray = ls at hl ⊢
  have hl : lv_has ls 5 [(0, .ref aT), (1, .int p1), (2, .int p2)] := hl
  have hb5 : ∀ (k5 : Nat), ∀ (x3 : Int32) (x4 : Int32)  (H : Heap) (locs : List Loc) (ls : Array Slot), hX13_variablesOf_5 K vCol vRu p1 p2 k5 x3 x4 = some RR → va_P G vwCl (zW [[(aT, .inr (12, [.ref aCol, .int vTa, .ref aFa, .ref aRu, .int vRc, .ref aRo, .ref aLa, .ref aVa]))], [(aCol, .inl (tt 0, 5, .inl vCol))], [(aRu, .inl (tt 5, 5, .inr (.inr (.inr (.inr (fun j => some (eRu j)))))))], (wA eRu (tt 0) 5 25 vRu)]) H → va_D A (zW [[(aT, .inr (12, [.ref aCol, .int vTa, .ref aFa, .ref aRu, .int vRc, .ref aRo, .ref aLa, .ref aVa]))], [(aCol, .inl (tt 0, 5, .inl vCol))], [(aRu, .inl (tt 5, 5, .inr (.inr (.inr (.inr (fun j => some (eRu j)))))))], (wA eRu (tt 0) 5 25 vRu)]) → va_S A s.heap H locs → lv_has ls 5 [(0, .ref aT), (1, .int p1), (2, .int p2), (3, .int x3), (4, .int x4)] → W p l e (headSpec wsX13_variablesOf ({ frames := 2, cells := 0, slots := 0, locals := 84 } : Room)).room s m ([.ref aT, .int p1, .int p2] : List Value).toArray below meth c H locs 0 0 (MQ below (va_Qi (fun (r : Int32) (_ : Unit) => r = RR) (zAt G (zTy tt) A (fun _ : Unit => zW [[(aT, .inr (12, [.ref aCol, .int vTa, .ref aFa, .ref aRu, .int vRc, .ref aRo, .ref aLa, .ref aVa]))], [(aCol, .inl (tt 0, 5, .inl vCol))], [(aRu, .inl (tt 5, 5, .inr (.inr (.inr (.inr (fun j => some (eRu j)))))))], (wA eRu (tt 0) 5 25 vRu)])) A) ([.ref aT, .int p1, .int p2] : List Value).toArray s 0 0 A) (F0 m 5 ls []) := by
    intro k5
    induction k5 with
    | zero => intro x3 x4 H locs ls hF; rw [hX13_variablesOf_5] at hF; cases hF
    | succ k5 ih5 =>
      have hb55 : ∀ (x3 : Int32) (x4 : Int32)  (H : Heap) (locs : List Loc) (ls : Array Slot), hX13_variablesOf_55 K vCol vRu p1 p2 (hX13_variablesOf_5 K vCol vRu p1 p2 k5) x3 x4 = some RR → va_P G vwCl (zW [[(aT, .inr (12, [.ref aCol, .int vTa, .ref aFa, .ref aRu, .int vRc, .ref aRo, .ref aLa, .ref aVa]))], [(aCol, .inl (tt 0, 5, .inl vCol))], [(aRu, .inl (tt 5, 5, .inr (.inr (.inr (.inr (fun j => some (eRu j)))))))], (wA eRu (tt 0) 5 25 vRu)]) H → va_D A (zW [[(aT, .inr (12, [.ref aCol, .int vTa, .ref aFa, .ref aRu, .int vRc, .ref aRo, .ref aLa, .ref aVa]))], [(aCol, .inl (tt 0, 5, .inl vCol))], [(aRu, .inl (tt 5, 5, .inr (.inr (.inr (.inr (fun j => some (eRu j)))))))], (wA eRu (tt 0) 5 25 vRu)]) → va_S A s.heap H locs → lv_has ls 5 [(0, .ref aT), (1, .int p1), (2, .int p2), (3, .int x3), (4, .int x4)] → W p l e (headSpec wsX13_variablesOf ({ frames := 2, cells := 0, slots := 0, locals := 84 } : Room)).room s m ([.ref aT, .int p1, .int p2] : List Value).toArray below meth c H locs 0 0 (MQ below (va_Qi (fun (r : Int32) (_ : Unit) => r = RR) (zAt G (zTy tt) A (fun _ : Unit => zW [[(aT, .inr (12, [.ref aCol, .int vTa, .ref aFa, .ref aRu, .int vRc, .ref aRo, .ref aLa, .ref aVa]))], [(aCol, .inl (tt 0, 5, .inl vCol))], [(aRu, .inl (tt 5, 5, .inr (.inr (.inr (.inr (fun j => some (eRu j)))))))], (wA eRu (tt 0) 5 25 vRu)])) A) ([.ref aT, .int p1, .int p2] : List Value).toArray s 0 0 A) (F0 m 55 ls []) := by
        intro x3 x4 H locs ls hF hP hD hS hl
        unfold hX13_variablesOf_55 at hF
        refine lv_iinc (v := (x4 + (1 : Int32))) (lv' := [(4, .int (x4 + (1 : Int32))), (0, .ref aT), (1, .int p1), (2, .int p2), (3, .int x3)]) hx hb dX13_variablesOf_55 hl (k := 4) rfl rfl (by decide) rfl (fun ls hl => ?_)
        refine lv_goto (tgt := 5) hx hb dX13_variablesOf_58 (by decide) ?_
        exact ih5 _ _ _ _ _ hF hP hD hS (lv_sub hl [1, 2, 3, 4, 0] rfl)
      intro x3 x4 H locs ls hF hP hD hS hl
      rw [hX13_variablesOf_5] at hF
      refine lv_iload hx hb dX13_variablesOf_5 (lv_at hl 4 rfl) ?_
      refine lv_aload_n hx hb dX13_variablesOf_7 rfl (lv_at hl 0 rfl) ?_
      obtain ⟨k_8, hk_8, hs_8⟩ := zS_one hP 0 rfl
      refine va_get (D := G) (ci := 12) (v := .ref aRu) (C := RX13) (T := TX13) (N := 8) hx hb hts hiX13 hown hK hP k_8 hk_8 rfl 3 (by decide) (hts (.fieldLink RX13 26 "LeapTablesLaw$Told" "rules" "[[I") (List.mem_of_getElem? (i := 1) rfl)) (fun _ h9 => h9) rfl dX13_variablesOf_8 ?_
      refine lv_iload_n hx hb dX13_variablesOf_11 rfl (lv_at hl 1 rfl) ?_
      obtain ⟨h_12, hF⟩ := z_in hF
      obtain ⟨k_12, hk_12, hs_12⟩ := zS_one hP 2 rfl
      refine zA_aald (f := eRu) hx hb hK hP k_12 5 hk_12 rfl h_12 dX13_variablesOf_12 ?_
      refine lv_iconst (v := (4 : Int32)) hx hb dX13_variablesOf_13 (by decide) ?_
      obtain ⟨h_14, hF⟩ := z_in hF
      obtain ⟨k_14, hk_14, hs_14⟩ := zS_fam hP 3 rfl (zlt_of h_12)
      refine va_iald hx hb hK hP k_14 0 hk_14 rfl h_14 dX13_variablesOf_14 ?_
      refine lv_icmp_ge (tgt := 61) hx hb dX13_variablesOf_15 (by decide) (fun c_15 => ?_) (fun c_15 => ?_)
      · have hF := z_t c_15 hF
        refine lv_iload_n hx hb dX13_variablesOf_61 rfl (lv_at hl 3 rfl) ?_
        have hp9 : (zW [[(aT, .inr (12, [.ref aCol, .int vTa, .ref aFa, .ref aRu, .int vRc, .ref aRo, .ref aLa, .ref aVa]))], [(aCol, .inl (tt 0, 5, .inl vCol))], [(aRu, .inl (tt 5, 5, .inr (.inr (.inr (.inr (fun j => some (eRu j)))))))], (wA eRu (tt 0) 5 25 vRu)]).Perm (zW [[(aT, .inr (12, [.ref aCol, .int vTa, .ref aFa, .ref aRu, .int vRc, .ref aRo, .ref aLa, .ref aVa]))], [(aCol, .inl (tt 0, 5, .inl vCol))], [(aRu, .inl (tt 5, 5, .inr (.inr (.inr (.inr (fun j => some (eRu j)))))))], (wA eRu (tt 0) 5 25 vRu)] ++ zW []) := zS_cut (is := [0, 1, 2, 3]) (js := []) 4 rfl rfl rfl (by decide)
        have hP9 : va_P G vwCl (zW [[(aT, .inr (12, [.ref aCol, .int vTa, .ref aFa, .ref aRu, .int vRc, .ref aRo, .ref aLa, .ref aVa]))], [(aCol, .inl (tt 0, 5, .inl vCol))], [(aRu, .inl (tt 5, 5, .inr (.inr (.inr (.inr (fun j => some (eRu j)))))))], (wA eRu (tt 0) 5 25 vRu)]) H := zS_subP hp9 hP
        have hD9 : va_D A (zW [[(aT, .inr (12, [.ref aCol, .int vTa, .ref aFa, .ref aRu, .int vRc, .ref aRo, .ref aLa, .ref aVa]))], [(aCol, .inl (tt 0, 5, .inl vCol))], [(aRu, .inl (tt 5, 5, .inr (.inr (.inr (.inr (fun j => some (eRu j)))))))], (wA eRu (tt 0) 5 25 vRu)]) := zS_subD hp9 hD
        have hR := Option.some.inj hF
        exact W.iret (v := x3) hx hb hr (fun t ht hW => ⟨⟨x3, (), rfl, (by subst hR; rfl), by rw [ht]; exact hP9, va_K.moved hW.alike hK, hD9⟩, hS.F ht⟩) hS.2.2 dX13_variablesOf_62
      · have hF := z_f c_15 hF
        refine lv_aload_n hx hb dX13_variablesOf_18 rfl (lv_at hl 0 rfl) ?_
        obtain ⟨k_19, hk_19, hs_19⟩ := zS_one hP 0 rfl
        refine va_get (D := G) (ci := 12) (v := .ref aRu) (C := RX13) (T := TX13) (N := 8) hx hb hts hiX13 hown hK hP k_19 hk_19 rfl 3 (by decide) (hts (.fieldLink RX13 26 "LeapTablesLaw$Told" "rules" "[[I") (List.mem_of_getElem? (i := 1) rfl)) (fun _ h9 => h9) rfl dX13_variablesOf_19 ?_
        refine lv_iload_n hx hb dX13_variablesOf_22 rfl (lv_at hl 1 rfl) ?_
        obtain ⟨h_23, hF⟩ := z_in hF
        obtain ⟨k_23, hk_23, hs_23⟩ := zS_one hP 2 rfl
        refine zA_aald (f := eRu) hx hb hK hP k_23 5 hk_23 rfl h_23 dX13_variablesOf_23 ?_
        refine lv_bipush (v := (9 : Int32)) hx hb dX13_variablesOf_24 (by decide) ?_
        refine lv_iconst (v := (5 : Int32)) hx hb dX13_variablesOf_26 (by decide) ?_
        refine lv_iload hx hb dX13_variablesOf_27 (lv_at hl 4 rfl) ?_
        refine lv_imul hx hb dX13_variablesOf_29 ?_
        refine lv_iadd hx hb dX13_variablesOf_30 ?_
        obtain ⟨h_31, hF⟩ := z_in hF
        obtain ⟨k_31, hk_31, hs_31⟩ := zS_fam hP 3 rfl (zlt_of h_12)
        refine va_iald hx hb hK hP k_31 0 hk_31 rfl h_31 dX13_variablesOf_31 ?_
        refine lv_iload_n hx hb dX13_variablesOf_32 rfl (lv_at hl 2 rfl) ?_
        refine lv_icmp_ne (tgt := 55) hx hb dX13_variablesOf_33 (by decide) (fun c_33 => ?_) (fun c_33 => ?_)
        · have hF := z_f c_33 hF
          exact hb55 _ _ _ _ _ hF hP hD hS (lv_sub hl [0, 1, 2, 3, 4] rfl)
        · have hF := z_t c_33 hF
          refine lv_iload_n hx hb dX13_variablesOf_36 rfl (lv_at hl 3 rfl) ?_
          refine lv_aload_n hx hb dX13_variablesOf_37 rfl (lv_at hl 0 rfl) ?_
          refine lv_aload_n hx hb dX13_variablesOf_38 rfl (lv_at hl 0 rfl) ?_
          obtain ⟨k_39, hk_39, hs_39⟩ := zS_one hP 0 rfl
          refine va_get (D := G) (ci := 12) (v := .ref aRu) (C := RX13) (T := TX13) (N := 8) hx hb hts hiX13 hown hK hP k_39 hk_39 rfl 3 (by decide) (hts (.fieldLink RX13 26 "LeapTablesLaw$Told" "rules" "[[I") (List.mem_of_getElem? (i := 1) rfl)) (fun _ h9 => h9) rfl dX13_variablesOf_39 ?_
          refine lv_iload_n hx hb dX13_variablesOf_42 rfl (lv_at hl 1 rfl) ?_
          obtain ⟨h_43, hF⟩ := z_in hF
          obtain ⟨k_43, hk_43, hs_43⟩ := zS_one hP 2 rfl
          refine zA_aald (f := eRu) hx hb hK hP k_43 5 hk_43 rfl h_43 dX13_variablesOf_43 ?_
          refine lv_iconst (v := (5 : Int32)) hx hb dX13_variablesOf_44 (by decide) ?_
          refine lv_iconst (v := (5 : Int32)) hx hb dX13_variablesOf_45 (by decide) ?_
          refine lv_iload hx hb dX13_variablesOf_46 (lv_at hl 4 rfl) ?_
          refine lv_imul hx hb dX13_variablesOf_48 ?_
          refine lv_iadd hx hb dX13_variablesOf_49 ?_
          have hP := zP_perm (zS_pull (C := [[(aT, .inr (12, [.ref aCol, .int vTa, .ref aFa, .ref aRu, .int vRc, .ref aRo, .ref aLa, .ref aVa]))], [(aCol, .inl (tt 0, 5, .inl vCol))], [(aRu, .inl (tt 5, 5, .inr (.inr (.inr (.inr (fun j => some (eRu j)))))))]]) (is := [0, 1, 2]) 4 rfl 3 rfl (zlt_of h_12) rfl (by decide)) hP
          have hD := zD_perm (zS_pull (C := [[(aT, .inr (12, [.ref aCol, .int vTa, .ref aFa, .ref aRu, .int vRc, .ref aRo, .ref aLa, .ref aVa]))], [(aCol, .inl (tt 0, 5, .inl vCol))], [(aRu, .inl (tt 5, 5, .inr (.inr (.inr (.inr (fun j => some (eRu j)))))))]]) (is := [0, 1, 2]) 4 rfl 3 rfl (zlt_of h_12) rfl (by decide)) hD
          have hP : va_P G vwCl (zW [[(aT, .inr (12, [.ref aCol, .int vTa, .ref aFa, .ref aRu, .int vRc, .ref aRo, .ref aLa, .ref aVa]))], [(aCol, .inl (tt 0, 5, .inl vCol))], [(aRu, .inl (tt 5, 5, .inr (.inr (.inr (.inr (fun j => some (eRu j)))))))], [((eRu p1.toNatClampNeg), .inl (tt 0, 25, .inl (vRu p1.toNatClampNeg)))], (wAx eRu (tt 0) 5 25 vRu p1.toNatClampNeg)]) H := hP
          have hD : va_D A (zW [[(aT, .inr (12, [.ref aCol, .int vTa, .ref aFa, .ref aRu, .int vRc, .ref aRo, .ref aLa, .ref aVa]))], [(aCol, .inl (tt 0, 5, .inl vCol))], [(aRu, .inl (tt 5, 5, .inr (.inr (.inr (.inr (fun j => some (eRu j)))))))], [((eRu p1.toNatClampNeg), .inl (tt 0, 25, .inl (vRu p1.toNatClampNeg)))], (wAx eRu (tt 0) 5 25 vRu p1.toNatClampNeg)]) := hD
          obtain ⟨q50, hc_50, hF⟩ := z_bind hF
          have hp_50 : (zW [[(aT, .inr (12, [.ref aCol, .int vTa, .ref aFa, .ref aRu, .int vRc, .ref aRo, .ref aLa, .ref aVa]))], [(aCol, .inl (tt 0, 5, .inl vCol))], [(aRu, .inl (tt 5, 5, .inr (.inr (.inr (.inr (fun j => some (eRu j)))))))], [((eRu p1.toNatClampNeg), .inl (tt 0, 25, .inl (vRu p1.toNatClampNeg)))], (wAx eRu (tt 0) 5 25 vRu p1.toNatClampNeg)]).Perm (zW [[(aT, .inr (12, [.ref aCol, .int vTa, .ref aFa, .ref aRu, .int vRc, .ref aRo, .ref aLa, .ref aVa]))], [(aCol, .inl (tt 0, 5, .inl vCol))], [((eRu p1.toNatClampNeg), .inl (tt 0, 25, .inl (vRu p1.toNatClampNeg)))]] ++ zW [[(aRu, .inl (tt 5, 5, .inr (.inr (.inr (.inr (fun j => some (eRu j)))))))], (wAx eRu (tt 0) 5 25 vRu p1.toNatClampNeg)]) := zS_cut (is := [0, 1, 3]) (js := [2, 4]) 5 rfl rfl rfl (by decide)
          refine s_backi (s_goV (As := [.ref (eRu p1.toNatClampNeg), .int ((5 : Int32) + ((5 : Int32) * x4))]) (rest := [.int x3]) (ci := 12) ⟨hx, hb, hml, hown, hts⟩ hK hN hX hO hAA hp_50 hP hD hS hA (oX13_variables l G tt sa hlt H.size K 25 aT aCol aFa aRu aRo aLa aVa (eRu p1.toNatClampNeg) vTa vRc vCol (vRu p1.toNatClampNeg) ((5 : Int32) + ((5 : Int32) * x4)) q50 hc_50) (cwV 2 hts gX13_variablesOf_X13_variables rfl rfl rfl (by decide +kernel) ⟨Nat.le_of_ble_eq_true rfl, Nat.le_of_ble_eq_true rfl⟩) rfl rfl rfl hl.1 rfl (Nat.le_of_ble_eq_true rfl) dX13_variablesOf_50 ⟨Nat.le_of_ble_eq_true rfl, Nat.le_of_ble_eq_true rfl⟩) hp_50 hP hD hS hA (fun r_50 u H locs hw hP hD hS => ?_)
          replace hw := hw.symm; subst hw
          have hP : va_P G vwCl (zW [[(aRu, .inl (tt 5, 5, .inr (.inr (.inr (.inr (fun j => some (eRu j)))))))], (wAx eRu (tt 0) 5 25 vRu p1.toNatClampNeg), [(aT, .inr (12, [.ref aCol, .int vTa, .ref aFa, .ref aRu, .int vRc, .ref aRo, .ref aLa, .ref aVa]))], [(aCol, .inl (tt 0, 5, .inl vCol))], [((eRu p1.toNatClampNeg), .inl (tt 0, 25, .inl (vRu p1.toNatClampNeg)))]]) H := hP
          have hD : va_D A (zW [[(aRu, .inl (tt 5, 5, .inr (.inr (.inr (.inr (fun j => some (eRu j)))))))], (wAx eRu (tt 0) 5 25 vRu p1.toNatClampNeg), [(aT, .inr (12, [.ref aCol, .int vTa, .ref aFa, .ref aRu, .int vRc, .ref aRo, .ref aLa, .ref aVa]))], [(aCol, .inl (tt 0, 5, .inl vCol))], [((eRu p1.toNatClampNeg), .inl (tt 0, 25, .inl (vRu p1.toNatClampNeg)))]]) := hD
          have hP := zP_perm (zS_stay (C := [[(aRu, .inl (tt 5, 5, .inr (.inr (.inr (.inr (fun j => some (eRu j)))))))], [(aT, .inr (12, [.ref aCol, .int vTa, .ref aFa, .ref aRu, .int vRc, .ref aRo, .ref aLa, .ref aVa]))], [(aCol, .inl (tt 0, 5, .inl vCol))]]) (is := [0, 2, 3]) 5 rfl 4 1 rfl rfl (zlt_of h_12) rfl (by decide)) hP
          have hD := zD_perm (zS_stay (C := [[(aRu, .inl (tt 5, 5, .inr (.inr (.inr (.inr (fun j => some (eRu j)))))))], [(aT, .inr (12, [.ref aCol, .int vTa, .ref aFa, .ref aRu, .int vRc, .ref aRo, .ref aLa, .ref aVa]))], [(aCol, .inl (tt 0, 5, .inl vCol))]]) (is := [0, 2, 3]) 5 rfl 4 1 rfl rfl (zlt_of h_12) rfl (by decide)) hD
          have hP : va_P G vwCl (zW [[(aRu, .inl (tt 5, 5, .inr (.inr (.inr (.inr (fun j => some (eRu j)))))))], [(aT, .inr (12, [.ref aCol, .int vTa, .ref aFa, .ref aRu, .int vRc, .ref aRo, .ref aLa, .ref aVa]))], [(aCol, .inl (tt 0, 5, .inl vCol))], (wA eRu (tt 0) 5 25 vRu)]) H := hP
          have hD : va_D A (zW [[(aRu, .inl (tt 5, 5, .inr (.inr (.inr (.inr (fun j => some (eRu j)))))))], [(aT, .inr (12, [.ref aCol, .int vTa, .ref aFa, .ref aRu, .int vRc, .ref aRo, .ref aLa, .ref aVa]))], [(aCol, .inl (tt 0, 5, .inl vCol))], (wA eRu (tt 0) 5 25 vRu)]) := hD
          refine lv_ior hx hb dX13_variablesOf_53 ?_
          refine lv_istore_n (lv' := [(3, .int (x3 ||| q50)), (0, .ref aT), (1, .int p1), (2, .int p2), (4, .int x4)]) hx hb dX13_variablesOf_54 rfl hl (by decide) rfl (fun ls hl => ?_)
          have hpj : (zW [[(aRu, .inl (tt 5, 5, .inr (.inr (.inr (.inr (fun j => some (eRu j)))))))], [(aT, .inr (12, [.ref aCol, .int vTa, .ref aFa, .ref aRu, .int vRc, .ref aRo, .ref aLa, .ref aVa]))], [(aCol, .inl (tt 0, 5, .inl vCol))], (wA eRu (tt 0) 5 25 vRu)]).Perm (zW [[(aT, .inr (12, [.ref aCol, .int vTa, .ref aFa, .ref aRu, .int vRc, .ref aRo, .ref aLa, .ref aVa]))], [(aCol, .inl (tt 0, 5, .inl vCol))], [(aRu, .inl (tt 5, 5, .inr (.inr (.inr (.inr (fun j => some (eRu j)))))))], (wA eRu (tt 0) 5 25 vRu)] ++ zW []) := zS_cut (is := [1, 2, 0, 3]) (js := []) 4 rfl rfl rfl (by decide)
          exact hb55 _ _ _ _ _ hF (zS_subP hpj hP) (zS_subD hpj hD) hS (lv_sub hl [1, 2, 3, 0, 4] rfl)
  obtain ⟨H, hHe⟩ : ∃ H : Heap, s.heap = H := ⟨_, rfl⟩
  have hS : va_S A s.heap H [] := by rw [← hHe]; exact va_S.rf
  rw [hHe] at hP ⊢
  unfold hX13_variablesOf at hF
  refine lv_iconst (v := (0 : Int32)) hx hb dX13_variablesOf_0 (by decide) ?_
  refine lv_istore_n (lv' := [(3, .int (0 : Int32)), (0, .ref aT), (1, .int p1), (2, .int p2)]) hx hb dX13_variablesOf_1 rfl hl (by decide) rfl (fun ls hl => ?_)
  refine lv_iconst (v := (0 : Int32)) hx hb dX13_variablesOf_2 (by decide) ?_
  refine lv_istore (lv' := [(4, .int (0 : Int32)), (3, .int (0 : Int32)), (0, .ref aT), (1, .int p1), (2, .int p2)]) hx hb dX13_variablesOf_3 hl (by decide) rfl (fun ls hl => ?_)
  exact hb5 K _ _ _ _ _ hF hP hD hS (lv_sub hl [2, 3, 4, 1, 0] rfl)

set_option maxHeartbeats 8000000 in
set_option maxRecDepth 100000 in
theorem oX13_isIdle (l : Launch) (G : va_G) (tt : Nat → ClassId) (sa : Nat → Nat) (hlt : l.stackTraces = false) (sz : Nat) (K : Nat) (aT : Nat) (aCol : Nat) (aFa : Nat) (aRu : Nat) (aRo : Nat) (aLa : Nat) (aVa : Nat) (eRu : Nat → Nat) (vTa : Int32) (vRc : Int32) (vCol : Nat → Int32) (vRu : Nat → Nat → Int32) (p1 : Int32) (RR : Bool) (hF : hX13_isIdle K vCol vRu p1 = some RR) : Met l yX13_isIdle wsX13_isIdle ({ frames := 3, cells := 0, slots := 0, locals := 108 } : Room) (zPreQ G (zTy tt) sa [.ref aT, .int p1] sz (zW [[(aT, .inr (12, [.ref aCol, .int vTa, .ref aFa, .ref aRu, .int vRc, .ref aRo, .ref aLa, .ref aVa]))], [(aCol, .inl (tt 0, 5, .inl vCol))], [(aRu, .inl (tt 5, 5, .inr (.inr (.inr (.inr (fun j => some (eRu j)))))))], (wA eRu (tt 0) 5 25 vRu)])) (va_Qi (fun (r : Int32) (_ : Unit) => r = bI RR) (zAt G (zTy tt) (va_A (zW [[(aT, .inr (12, [.ref aCol, .int vTa, .ref aFa, .ref aRu, .int vRc, .ref aRo, .ref aLa, .ref aVa]))], [(aCol, .inl (tt 0, 5, .inl vCol))], [(aRu, .inl (tt 5, 5, .inr (.inr (.inr (.inr (fun j => some (eRu j)))))))], (wA eRu (tt 0) 5 25 vRu)]) sz) (fun _ : Unit => zW [[(aT, .inr (12, [.ref aCol, .int vTa, .ref aFa, .ref aRu, .int vRc, .ref aRo, .ref aLa, .ref aVa]))], [(aCol, .inl (tt 0, 5, .inl vCol))], [(aRu, .inl (tt 5, 5, .inr (.inr (.inr (.inr (fun j => some (eRu j)))))))], (wA eRu (tt 0) 5 25 vRu)])) (va_A (zW [[(aT, .inr (12, [.ref aCol, .int vTa, .ref aFa, .ref aRu, .int vRc, .ref aRo, .ref aLa, .ref aVa]))], [(aCol, .inl (tt 0, 5, .inl vCol))], [(aRu, .inl (tt 5, 5, .inr (.inr (.inr (.inr (fun j => some (eRu j)))))))], (wA eRu (tt 0) 5 25 vRu)]) sz)) 0 0 (va_A (zW [[(aT, .inr (12, [.ref aCol, .int vTa, .ref aFa, .ref aRu, .int vRc, .ref aRo, .ref aLa, .ref aVa]))], [(aCol, .inl (tt 0, 5, .inl vCol))], [(aRu, .inl (tt 5, 5, .inr (.inr (.inr (.inr (fun j => some (eRu j)))))))], (wA eRu (tt 0) 5 25 vRu)]) sz) := by
  refine Met.ofW (cc := cX13_isIdle) (maxL := 3) (ret := (some .boolean)) (by decide +kernel) rfl ?_
  intro p e s m args below meth c s₁ B hml hv
  obtain ⟨rfl, hsz, hP, hK, hD0, hN, hX, hO, hAA⟩ := hv
  have hx := B.exec
  have hb := B.bytes
  have hr := B.returns
  have hts := atoms_spec (ws := wsX13_isIdle) B.pre
  have hown : s.vm.findClass RX13 = some m.cls := findClass_of_methodNamed B.named
  have hlocks := B.notSynchronized
  subst hsz
  have hD := hD0.self (sz := s.heap.size)
  generalize hAe : va_A (zW [[(aT, .inr (12, [.ref aCol, .int vTa, .ref aFa, .ref aRu, .int vRc, .ref aRo, .ref aLa, .ref aVa]))], [(aCol, .inl (tt 0, 5, .inl vCol))], [(aRu, .inl (tt 5, 5, .inr (.inr (.inr (.inr (fun j => some (eRu j)))))))], (wA eRu (tt 0) 5 25 vRu)]) s.heap.size = A at hD hX ⊢
  have hA : ∀ q : Nat, s.heap.size ≤ q → A q := fun q h => by rw [← hAe]; exact Or.inr h
  have hP : va_P G vwCl (zW [[(aT, .inr (12, [.ref aCol, .int vTa, .ref aFa, .ref aRu, .int vRc, .ref aRo, .ref aLa, .ref aVa]))], [(aCol, .inl (tt 0, 5, .inl vCol))], [(aRu, .inl (tt 5, 5, .inr (.inr (.inr (.inr (fun j => some (eRu j)))))))], (wA eRu (tt 0) 5 25 vRu)]) s.heap := hP
  have hiX13 : ∀ w ∈ wsX130, w ∈ wsX13_isIdle := by decide +kernel
  have hl := lv_entry ([.ref aT, .int p1]) (n := 3) (Nat.le_of_ble_eq_true rfl)
  rw [lg_entry_eq]
  generalize (lg_sl ([.ref aT, .int p1]) ++ List.replicate (3 - (lg_sl ([.ref aT, .int p1])).length) Slot.unset).toArray = ls at hl ⊢
  have hl : lv_has ls 3 [(0, .ref aT), (1, .int p1)] := hl
  have hb36 : ∀   (H : Heap) (locs : List Loc) (ls : Array Slot), hX13_isIdle_36 K vCol vRu p1  = some RR → va_P G vwCl (zW [[(aT, .inr (12, [.ref aCol, .int vTa, .ref aFa, .ref aRu, .int vRc, .ref aRo, .ref aLa, .ref aVa]))], [(aCol, .inl (tt 0, 5, .inl vCol))], [(aRu, .inl (tt 5, 5, .inr (.inr (.inr (.inr (fun j => some (eRu j)))))))], (wA eRu (tt 0) 5 25 vRu)]) H → va_D A (zW [[(aT, .inr (12, [.ref aCol, .int vTa, .ref aFa, .ref aRu, .int vRc, .ref aRo, .ref aLa, .ref aVa]))], [(aCol, .inl (tt 0, 5, .inl vCol))], [(aRu, .inl (tt 5, 5, .inr (.inr (.inr (.inr (fun j => some (eRu j)))))))], (wA eRu (tt 0) 5 25 vRu)]) → va_S A s.heap H locs → lv_has ls 3 [] → W p l e (headSpec wsX13_isIdle ({ frames := 3, cells := 0, slots := 0, locals := 108 } : Room)).room s m ([.ref aT, .int p1] : List Value).toArray below meth c H locs 0 0 (MQ below (va_Qi (fun (r : Int32) (_ : Unit) => r = bI RR) (zAt G (zTy tt) A (fun _ : Unit => zW [[(aT, .inr (12, [.ref aCol, .int vTa, .ref aFa, .ref aRu, .int vRc, .ref aRo, .ref aLa, .ref aVa]))], [(aCol, .inl (tt 0, 5, .inl vCol))], [(aRu, .inl (tt 5, 5, .inr (.inr (.inr (.inr (fun j => some (eRu j)))))))], (wA eRu (tt 0) 5 25 vRu)])) A) ([.ref aT, .int p1] : List Value).toArray s 0 0 A) (F0 m 36 ls []) := by
    intro  H locs ls hF hP hD hS hl
    unfold hX13_isIdle_36 at hF
    refine lv_iconst (v := (1 : Int32)) hx hb dX13_isIdle_36 (by decide) ?_
    refine lv_goto (tgt := 41) hx hb dX13_isIdle_37 (by decide) ?_
    have hp9 : (zW [[(aT, .inr (12, [.ref aCol, .int vTa, .ref aFa, .ref aRu, .int vRc, .ref aRo, .ref aLa, .ref aVa]))], [(aCol, .inl (tt 0, 5, .inl vCol))], [(aRu, .inl (tt 5, 5, .inr (.inr (.inr (.inr (fun j => some (eRu j)))))))], (wA eRu (tt 0) 5 25 vRu)]).Perm (zW [[(aT, .inr (12, [.ref aCol, .int vTa, .ref aFa, .ref aRu, .int vRc, .ref aRo, .ref aLa, .ref aVa]))], [(aCol, .inl (tt 0, 5, .inl vCol))], [(aRu, .inl (tt 5, 5, .inr (.inr (.inr (.inr (fun j => some (eRu j)))))))], (wA eRu (tt 0) 5 25 vRu)] ++ zW []) := zS_cut (is := [0, 1, 2, 3]) (js := []) 4 rfl rfl rfl (by decide)
    have hP9 : va_P G vwCl (zW [[(aT, .inr (12, [.ref aCol, .int vTa, .ref aFa, .ref aRu, .int vRc, .ref aRo, .ref aLa, .ref aVa]))], [(aCol, .inl (tt 0, 5, .inl vCol))], [(aRu, .inl (tt 5, 5, .inr (.inr (.inr (.inr (fun j => some (eRu j)))))))], (wA eRu (tt 0) 5 25 vRu)]) H := zS_subP hp9 hP
    have hD9 : va_D A (zW [[(aT, .inr (12, [.ref aCol, .int vTa, .ref aFa, .ref aRu, .int vRc, .ref aRo, .ref aLa, .ref aVa]))], [(aCol, .inl (tt 0, 5, .inl vCol))], [(aRu, .inl (tt 5, 5, .inr (.inr (.inr (.inr (fun j => some (eRu j)))))))], (wA eRu (tt 0) 5 25 vRu)]) := zS_subD hp9 hD
    have hR := Option.some.inj hF
    exact W.zret (v := (1 : Int32)) hx hb hr rfl (fun t ht hW => ⟨⟨(1 : Int32), (), rfl, (by subst hR; rfl), by rw [ht]; exact hP9, va_K.moved hW.alike hK, hD9⟩, hS.F ht⟩) hS.2.2 dX13_isIdle_41
  obtain ⟨H, hHe⟩ : ∃ H : Heap, s.heap = H := ⟨_, rfl⟩
  have hS : va_S A s.heap H [] := by rw [← hHe]; exact va_S.rf
  rw [hHe] at hP ⊢
  unfold hX13_isIdle at hF
  refine lv_aload_n hx hb dX13_isIdle_0 rfl (lv_at hl 0 rfl) ?_
  refine lv_iload_n hx hb dX13_isIdle_1 rfl (lv_at hl 1 rfl) ?_
  refine lv_iconst (v := (0 : Int32)) hx hb dX13_isIdle_2 (by decide) ?_
  obtain ⟨q3, hc_3, hF⟩ := z_bind hF
  have hp_3 : (zW [[(aT, .inr (12, [.ref aCol, .int vTa, .ref aFa, .ref aRu, .int vRc, .ref aRo, .ref aLa, .ref aVa]))], [(aCol, .inl (tt 0, 5, .inl vCol))], [(aRu, .inl (tt 5, 5, .inr (.inr (.inr (.inr (fun j => some (eRu j)))))))], (wA eRu (tt 0) 5 25 vRu)]).Perm (zW [[(aT, .inr (12, [.ref aCol, .int vTa, .ref aFa, .ref aRu, .int vRc, .ref aRo, .ref aLa, .ref aVa]))], [(aCol, .inl (tt 0, 5, .inl vCol))], [(aRu, .inl (tt 5, 5, .inr (.inr (.inr (.inr (fun j => some (eRu j)))))))], (wA eRu (tt 0) 5 25 vRu)] ++ zW []) := zS_cut (is := [0, 1, 2, 3]) (js := []) 4 rfl rfl rfl (by decide)
  refine s_backi (s_goV (As := [.int p1, .int (0 : Int32)]) (rest := []) (ci := 12) ⟨hx, hb, hml, hown, hts⟩ hK hN hX hO hAA hp_3 hP hD hS hA (oX13_variablesOf l G tt sa hlt H.size K aT aCol aFa aRu aRo aLa aVa eRu vTa vRc vCol vRu p1 (0 : Int32) q3 hc_3) (cwV 2 hts gX13_isIdle_X13_variablesOf rfl rfl rfl (by decide +kernel) ⟨Nat.le_of_ble_eq_true rfl, Nat.le_of_ble_eq_true rfl⟩) rfl rfl rfl hl.1 rfl (Nat.le_of_ble_eq_true rfl) dX13_isIdle_3 ⟨Nat.le_of_ble_eq_true rfl, Nat.le_of_ble_eq_true rfl⟩) hp_3 hP hD hS hA (fun r_3 u H locs hw hP hD hS => ?_)
  replace hw := hw.symm; subst hw
  have hP : va_P G vwCl (zW [[(aT, .inr (12, [.ref aCol, .int vTa, .ref aFa, .ref aRu, .int vRc, .ref aRo, .ref aLa, .ref aVa]))], [(aCol, .inl (tt 0, 5, .inl vCol))], [(aRu, .inl (tt 5, 5, .inr (.inr (.inr (.inr (fun j => some (eRu j)))))))], (wA eRu (tt 0) 5 25 vRu)]) H := hP
  have hD : va_D A (zW [[(aT, .inr (12, [.ref aCol, .int vTa, .ref aFa, .ref aRu, .int vRc, .ref aRo, .ref aLa, .ref aVa]))], [(aCol, .inl (tt 0, 5, .inl vCol))], [(aRu, .inl (tt 5, 5, .inr (.inr (.inr (.inr (fun j => some (eRu j)))))))], (wA eRu (tt 0) 5 25 vRu)]) := hD
  refine lv_istore_n (lv' := [(2, .int q3), (0, .ref aT), (1, .int p1)]) hx hb dX13_isIdle_6 rfl hl (by decide) rfl (fun ls hl => ?_)
  refine lv_iload_n hx hb dX13_isIdle_7 rfl (lv_at hl 0 rfl) ?_
  refine lv_if_eq (tgt := 36) hx hb dX13_isIdle_8 (by decide) (fun c_8 => ?_) (fun c_8 => ?_)
  · have hF := z_t c_8 hF
    exact hb36  _ _ _ hF hP hD hS (lv_sub hl [] rfl)
  · have hF := z_f c_8 hF
    refine lv_aload_n hx hb dX13_isIdle_11 rfl (lv_at hl 1 rfl) ?_
    refine lv_aload_n hx hb dX13_isIdle_12 rfl (lv_at hl 1 rfl) ?_
    obtain ⟨k_13, hk_13, hs_13⟩ := zS_one hP 0 rfl
    refine va_get (D := G) (ci := 12) (v := .ref aRu) (C := RX13) (T := TX13) (N := 8) hx hb hts hiX13 hown hK hP k_13 hk_13 rfl 3 (by decide) (hts (.fieldLink RX13 26 "LeapTablesLaw$Told" "rules" "[[I") (List.mem_of_getElem? (i := 1) rfl)) (fun _ h9 => h9) rfl dX13_isIdle_13 ?_
    refine lv_iload_n hx hb dX13_isIdle_16 rfl (lv_at hl 2 rfl) ?_
    obtain ⟨h_17, hF⟩ := z_in hF
    obtain ⟨k_17, hk_17, hs_17⟩ := zS_one hP 2 rfl
    refine zA_aald (f := eRu) hx hb hK hP k_17 5 hk_17 rfl h_17 dX13_isIdle_17 ?_
    refine lv_iconst (v := (0 : Int32)) hx hb dX13_isIdle_18 (by decide) ?_
    have hP := zP_perm (zS_pull (C := [[(aT, .inr (12, [.ref aCol, .int vTa, .ref aFa, .ref aRu, .int vRc, .ref aRo, .ref aLa, .ref aVa]))], [(aCol, .inl (tt 0, 5, .inl vCol))], [(aRu, .inl (tt 5, 5, .inr (.inr (.inr (.inr (fun j => some (eRu j)))))))]]) (is := [0, 1, 2]) 4 rfl 3 rfl (zlt_of h_17) rfl (by decide)) hP
    have hD := zD_perm (zS_pull (C := [[(aT, .inr (12, [.ref aCol, .int vTa, .ref aFa, .ref aRu, .int vRc, .ref aRo, .ref aLa, .ref aVa]))], [(aCol, .inl (tt 0, 5, .inl vCol))], [(aRu, .inl (tt 5, 5, .inr (.inr (.inr (.inr (fun j => some (eRu j)))))))]]) (is := [0, 1, 2]) 4 rfl 3 rfl (zlt_of h_17) rfl (by decide)) hD
    have hP : va_P G vwCl (zW [[(aT, .inr (12, [.ref aCol, .int vTa, .ref aFa, .ref aRu, .int vRc, .ref aRo, .ref aLa, .ref aVa]))], [(aCol, .inl (tt 0, 5, .inl vCol))], [(aRu, .inl (tt 5, 5, .inr (.inr (.inr (.inr (fun j => some (eRu j)))))))], [((eRu p1.toNatClampNeg), .inl (tt 0, 25, .inl (vRu p1.toNatClampNeg)))], (wAx eRu (tt 0) 5 25 vRu p1.toNatClampNeg)]) H := hP
    have hD : va_D A (zW [[(aT, .inr (12, [.ref aCol, .int vTa, .ref aFa, .ref aRu, .int vRc, .ref aRo, .ref aLa, .ref aVa]))], [(aCol, .inl (tt 0, 5, .inl vCol))], [(aRu, .inl (tt 5, 5, .inr (.inr (.inr (.inr (fun j => some (eRu j)))))))], [((eRu p1.toNatClampNeg), .inl (tt 0, 25, .inl (vRu p1.toNatClampNeg)))], (wAx eRu (tt 0) 5 25 vRu p1.toNatClampNeg)]) := hD
    obtain ⟨q19, hc_19, hF⟩ := z_bind hF
    have hp_19 : (zW [[(aT, .inr (12, [.ref aCol, .int vTa, .ref aFa, .ref aRu, .int vRc, .ref aRo, .ref aLa, .ref aVa]))], [(aCol, .inl (tt 0, 5, .inl vCol))], [(aRu, .inl (tt 5, 5, .inr (.inr (.inr (.inr (fun j => some (eRu j)))))))], [((eRu p1.toNatClampNeg), .inl (tt 0, 25, .inl (vRu p1.toNatClampNeg)))], (wAx eRu (tt 0) 5 25 vRu p1.toNatClampNeg)]).Perm (zW [[(aT, .inr (12, [.ref aCol, .int vTa, .ref aFa, .ref aRu, .int vRc, .ref aRo, .ref aLa, .ref aVa]))], [(aCol, .inl (tt 0, 5, .inl vCol))], [((eRu p1.toNatClampNeg), .inl (tt 0, 25, .inl (vRu p1.toNatClampNeg)))]] ++ zW [[(aRu, .inl (tt 5, 5, .inr (.inr (.inr (.inr (fun j => some (eRu j)))))))], (wAx eRu (tt 0) 5 25 vRu p1.toNatClampNeg)]) := zS_cut (is := [0, 1, 3]) (js := [2, 4]) 5 rfl rfl rfl (by decide)
    refine s_backi (s_goV (As := [.ref (eRu p1.toNatClampNeg), .int (0 : Int32)]) (rest := []) (ci := 12) ⟨hx, hb, hml, hown, hts⟩ hK hN hX hO hAA hp_19 hP hD hS hA (oX13_variables l G tt sa hlt H.size K 25 aT aCol aFa aRu aRo aLa aVa (eRu p1.toNatClampNeg) vTa vRc vCol (vRu p1.toNatClampNeg) (0 : Int32) q19 hc_19) (cwV 2 hts gX13_isIdle_X13_variables rfl rfl rfl (by decide +kernel) ⟨Nat.le_of_ble_eq_true rfl, Nat.le_of_ble_eq_true rfl⟩) rfl rfl rfl hl.1 rfl (Nat.le_of_ble_eq_true rfl) dX13_isIdle_19 ⟨Nat.le_of_ble_eq_true rfl, Nat.le_of_ble_eq_true rfl⟩) hp_19 hP hD hS hA (fun r_19 u H locs hw hP hD hS => ?_)
    replace hw := hw.symm; subst hw
    have hP : va_P G vwCl (zW [[(aRu, .inl (tt 5, 5, .inr (.inr (.inr (.inr (fun j => some (eRu j)))))))], (wAx eRu (tt 0) 5 25 vRu p1.toNatClampNeg), [(aT, .inr (12, [.ref aCol, .int vTa, .ref aFa, .ref aRu, .int vRc, .ref aRo, .ref aLa, .ref aVa]))], [(aCol, .inl (tt 0, 5, .inl vCol))], [((eRu p1.toNatClampNeg), .inl (tt 0, 25, .inl (vRu p1.toNatClampNeg)))]]) H := hP
    have hD : va_D A (zW [[(aRu, .inl (tt 5, 5, .inr (.inr (.inr (.inr (fun j => some (eRu j)))))))], (wAx eRu (tt 0) 5 25 vRu p1.toNatClampNeg), [(aT, .inr (12, [.ref aCol, .int vTa, .ref aFa, .ref aRu, .int vRc, .ref aRo, .ref aLa, .ref aVa]))], [(aCol, .inl (tt 0, 5, .inl vCol))], [((eRu p1.toNatClampNeg), .inl (tt 0, 25, .inl (vRu p1.toNatClampNeg)))]]) := hD
    have hP := zP_perm (zS_stay (C := [[(aRu, .inl (tt 5, 5, .inr (.inr (.inr (.inr (fun j => some (eRu j)))))))], [(aT, .inr (12, [.ref aCol, .int vTa, .ref aFa, .ref aRu, .int vRc, .ref aRo, .ref aLa, .ref aVa]))], [(aCol, .inl (tt 0, 5, .inl vCol))]]) (is := [0, 2, 3]) 5 rfl 4 1 rfl rfl (zlt_of h_17) rfl (by decide)) hP
    have hD := zD_perm (zS_stay (C := [[(aRu, .inl (tt 5, 5, .inr (.inr (.inr (.inr (fun j => some (eRu j)))))))], [(aT, .inr (12, [.ref aCol, .int vTa, .ref aFa, .ref aRu, .int vRc, .ref aRo, .ref aLa, .ref aVa]))], [(aCol, .inl (tt 0, 5, .inl vCol))]]) (is := [0, 2, 3]) 5 rfl 4 1 rfl rfl (zlt_of h_17) rfl (by decide)) hD
    have hP : va_P G vwCl (zW [[(aRu, .inl (tt 5, 5, .inr (.inr (.inr (.inr (fun j => some (eRu j)))))))], [(aT, .inr (12, [.ref aCol, .int vTa, .ref aFa, .ref aRu, .int vRc, .ref aRo, .ref aLa, .ref aVa]))], [(aCol, .inl (tt 0, 5, .inl vCol))], (wA eRu (tt 0) 5 25 vRu)]) H := hP
    have hD : va_D A (zW [[(aRu, .inl (tt 5, 5, .inr (.inr (.inr (.inr (fun j => some (eRu j)))))))], [(aT, .inr (12, [.ref aCol, .int vTa, .ref aFa, .ref aRu, .int vRc, .ref aRo, .ref aLa, .ref aVa]))], [(aCol, .inl (tt 0, 5, .inl vCol))], (wA eRu (tt 0) 5 25 vRu)]) := hD
    refine lv_aload_n hx hb dX13_isIdle_22 rfl (lv_at hl 1 rfl) ?_
    refine lv_iload_n hx hb dX13_isIdle_23 rfl (lv_at hl 2 rfl) ?_
    refine lv_iconst (v := (1 : Int32)) hx hb dX13_isIdle_24 (by decide) ?_
    obtain ⟨q25, hc_25, hF⟩ := z_bind hF
    have hp_25 : (zW [[(aRu, .inl (tt 5, 5, .inr (.inr (.inr (.inr (fun j => some (eRu j)))))))], [(aT, .inr (12, [.ref aCol, .int vTa, .ref aFa, .ref aRu, .int vRc, .ref aRo, .ref aLa, .ref aVa]))], [(aCol, .inl (tt 0, 5, .inl vCol))], (wA eRu (tt 0) 5 25 vRu)]).Perm (zW [[(aT, .inr (12, [.ref aCol, .int vTa, .ref aFa, .ref aRu, .int vRc, .ref aRo, .ref aLa, .ref aVa]))], [(aCol, .inl (tt 0, 5, .inl vCol))], [(aRu, .inl (tt 5, 5, .inr (.inr (.inr (.inr (fun j => some (eRu j)))))))], (wA eRu (tt 0) 5 25 vRu)] ++ zW []) := zS_cut (is := [1, 2, 0, 3]) (js := []) 4 rfl rfl rfl (by decide)
    refine s_backi (s_goV (As := [.int p1, .int (1 : Int32)]) (rest := [.int q19]) (ci := 12) ⟨hx, hb, hml, hown, hts⟩ hK hN hX hO hAA hp_25 hP hD hS hA (oX13_variablesOf l G tt sa hlt H.size K aT aCol aFa aRu aRo aLa aVa eRu vTa vRc vCol vRu p1 (1 : Int32) q25 hc_25) (cwV 2 hts gX13_isIdle_X13_variablesOf rfl rfl rfl (by decide +kernel) ⟨Nat.le_of_ble_eq_true rfl, Nat.le_of_ble_eq_true rfl⟩) rfl rfl rfl hl.1 rfl (Nat.le_of_ble_eq_true rfl) dX13_isIdle_25 ⟨Nat.le_of_ble_eq_true rfl, Nat.le_of_ble_eq_true rfl⟩) hp_25 hP hD hS hA (fun r_25 u H locs hw hP hD hS => ?_)
    replace hw := hw.symm; subst hw
    have hP : va_P G vwCl (zW [[(aT, .inr (12, [.ref aCol, .int vTa, .ref aFa, .ref aRu, .int vRc, .ref aRo, .ref aLa, .ref aVa]))], [(aCol, .inl (tt 0, 5, .inl vCol))], [(aRu, .inl (tt 5, 5, .inr (.inr (.inr (.inr (fun j => some (eRu j)))))))], (wA eRu (tt 0) 5 25 vRu)]) H := hP
    have hD : va_D A (zW [[(aT, .inr (12, [.ref aCol, .int vTa, .ref aFa, .ref aRu, .int vRc, .ref aRo, .ref aLa, .ref aVa]))], [(aCol, .inl (tt 0, 5, .inl vCol))], [(aRu, .inl (tt 5, 5, .inr (.inr (.inr (.inr (fun j => some (eRu j)))))))], (wA eRu (tt 0) 5 25 vRu)]) := hD
    refine lv_ior hx hb dX13_isIdle_28 ?_
    refine lv_iload_n hx hb dX13_isIdle_29 rfl (lv_at hl 0 rfl) ?_
    refine lv_iconst (v := (-1 : Int32)) hx hb dX13_isIdle_30 (by decide) ?_
    refine lv_ixor hx hb dX13_isIdle_31 ?_
    refine lv_iand hx hb dX13_isIdle_32 ?_
    refine lv_if_eq (tgt := 40) hx hb dX13_isIdle_33 (by decide) (fun c_33 => ?_) (fun c_33 => ?_)
    · have hF := z_t c_33 hF
      refine lv_iconst (v := (0 : Int32)) hx hb dX13_isIdle_40 (by decide) ?_
      have hp9 : (zW [[(aT, .inr (12, [.ref aCol, .int vTa, .ref aFa, .ref aRu, .int vRc, .ref aRo, .ref aLa, .ref aVa]))], [(aCol, .inl (tt 0, 5, .inl vCol))], [(aRu, .inl (tt 5, 5, .inr (.inr (.inr (.inr (fun j => some (eRu j)))))))], (wA eRu (tt 0) 5 25 vRu)]).Perm (zW [[(aT, .inr (12, [.ref aCol, .int vTa, .ref aFa, .ref aRu, .int vRc, .ref aRo, .ref aLa, .ref aVa]))], [(aCol, .inl (tt 0, 5, .inl vCol))], [(aRu, .inl (tt 5, 5, .inr (.inr (.inr (.inr (fun j => some (eRu j)))))))], (wA eRu (tt 0) 5 25 vRu)] ++ zW []) := zS_cut (is := [0, 1, 2, 3]) (js := []) 4 rfl rfl rfl (by decide)
      have hP9 : va_P G vwCl (zW [[(aT, .inr (12, [.ref aCol, .int vTa, .ref aFa, .ref aRu, .int vRc, .ref aRo, .ref aLa, .ref aVa]))], [(aCol, .inl (tt 0, 5, .inl vCol))], [(aRu, .inl (tt 5, 5, .inr (.inr (.inr (.inr (fun j => some (eRu j)))))))], (wA eRu (tt 0) 5 25 vRu)]) H := zS_subP hp9 hP
      have hD9 : va_D A (zW [[(aT, .inr (12, [.ref aCol, .int vTa, .ref aFa, .ref aRu, .int vRc, .ref aRo, .ref aLa, .ref aVa]))], [(aCol, .inl (tt 0, 5, .inl vCol))], [(aRu, .inl (tt 5, 5, .inr (.inr (.inr (.inr (fun j => some (eRu j)))))))], (wA eRu (tt 0) 5 25 vRu)]) := zS_subD hp9 hD
      have hR := Option.some.inj hF
      exact W.zret (v := (0 : Int32)) hx hb hr rfl (fun t ht hW => ⟨⟨(0 : Int32), (), rfl, (by subst hR; rfl), by rw [ht]; exact hP9, va_K.moved hW.alike hK, hD9⟩, hS.F ht⟩) hS.2.2 dX13_isIdle_41
    · have hF := z_f c_33 hF
      exact hb36  _ _ _ hF hP hD hS (lv_sub hl [] rfl)

set_option maxHeartbeats 8000000 in
set_option maxRecDepth 100000 in
theorem oX13_chooses (l : Launch) (G : va_G) (tt : Nat → ClassId) (sa : Nat → Nat) (hlt : l.stackTraces = false) (sz : Nat) (K : Nat) (aT : Nat) (aCol : Nat) (aFa : Nat) (aRu : Nat) (aRo : Nat) (aLa : Nat) (aVa : Nat) (vTa : Int32) (vRc : Int32) (vVa : Nat → Int32) (p1 : Int32) (p2 : Int32) (RR : Bool × (Nat → Int32)) (hF : hX13_chooses K p1 p2 vVa = some RR) : Met l yX13_chooses wsX13_chooses ({ frames := 1, cells := 0, slots := 0, locals := 60 } : Room) (zPreQ G (zTy tt) sa [.ref aT, .int p1, .int p2] sz (zW [[(aT, .inr (12, [.ref aCol, .int vTa, .ref aFa, .ref aRu, .int vRc, .ref aRo, .ref aLa, .ref aVa]))], [(aVa, .inl (tt 0, 4, .inl vVa))]])) (va_Qi (fun (r : Int32) (u : (Nat → Int32)) => r = bI RR.1 ∧ u = RR.2) (zAt G (zTy tt) (va_A (zW [[(aT, .inr (12, [.ref aCol, .int vTa, .ref aFa, .ref aRu, .int vRc, .ref aRo, .ref aLa, .ref aVa]))], [(aVa, .inl (tt 0, 4, .inl vVa))]]) sz) (fun u : (Nat → Int32) => zW [[(aT, .inr (12, [.ref aCol, .int vTa, .ref aFa, .ref aRu, .int vRc, .ref aRo, .ref aLa, .ref aVa]))], [(aVa, .inl (tt 0, 4, .inl u))]])) (va_A (zW [[(aT, .inr (12, [.ref aCol, .int vTa, .ref aFa, .ref aRu, .int vRc, .ref aRo, .ref aLa, .ref aVa]))], [(aVa, .inl (tt 0, 4, .inl vVa))]]) sz)) 0 0 (va_A (zW [[(aT, .inr (12, [.ref aCol, .int vTa, .ref aFa, .ref aRu, .int vRc, .ref aRo, .ref aLa, .ref aVa]))], [(aVa, .inl (tt 0, 4, .inl vVa))]]) sz) := by
  refine Met.ofW (cc := cX13_chooses) (maxL := 5) (ret := (some .boolean)) (by decide +kernel) rfl ?_
  intro p e s m args below meth c s₁ B hml hv
  obtain ⟨rfl, hsz, hP, hK, hD0, hN, hX, hO, hAA⟩ := hv
  have hx := B.exec
  have hb := B.bytes
  have hr := B.returns
  have hts := atoms_spec (ws := wsX13_chooses) B.pre
  have hown : s.vm.findClass RX13 = some m.cls := findClass_of_methodNamed B.named
  have hlocks := B.notSynchronized
  subst hsz
  have hD := hD0.self (sz := s.heap.size)
  generalize hAe : va_A (zW [[(aT, .inr (12, [.ref aCol, .int vTa, .ref aFa, .ref aRu, .int vRc, .ref aRo, .ref aLa, .ref aVa]))], [(aVa, .inl (tt 0, 4, .inl vVa))]]) s.heap.size = A at hD hX ⊢
  have hA : ∀ q : Nat, s.heap.size ≤ q → A q := fun q h => by rw [← hAe]; exact Or.inr h
  have hP : va_P G vwCl (zW [[(aT, .inr (12, [.ref aCol, .int vTa, .ref aFa, .ref aRu, .int vRc, .ref aRo, .ref aLa, .ref aVa]))], [(aVa, .inl (tt 0, 4, .inl vVa))]]) s.heap := hP
  have hiX13 : ∀ w ∈ wsX130, w ∈ wsX13_chooses := by decide +kernel
  have hl := lv_entry ([.ref aT, .int p1, .int p2]) (n := 5) (Nat.le_of_ble_eq_true rfl)
  rw [lg_entry_eq]
  generalize (lg_sl ([.ref aT, .int p1, .int p2]) ++ List.replicate (5 - (lg_sl ([.ref aT, .int p1, .int p2])).length) Slot.unset).toArray = ls at hl ⊢
  have hl : lv_has ls 5 [(0, .ref aT), (1, .int p1), (2, .int p2)] := hl
  have hb5 : ∀ (k5 : Nat), ∀ (x3 : Int32) (x4 : Int32) (vVa : Nat → Int32)  (H : Heap) (locs : List Loc) (ls : Array Slot), hX13_chooses_5 K p1 p2 k5 x3 x4 vVa = some RR → va_P G vwCl (zW [[(aT, .inr (12, [.ref aCol, .int vTa, .ref aFa, .ref aRu, .int vRc, .ref aRo, .ref aLa, .ref aVa]))], [(aVa, .inl (tt 0, 4, .inl vVa))]]) H → va_D A (zW [[(aT, .inr (12, [.ref aCol, .int vTa, .ref aFa, .ref aRu, .int vRc, .ref aRo, .ref aLa, .ref aVa]))], [(aVa, .inl (tt 0, 4, .inl vVa))]]) → va_S A s.heap H locs → lv_has ls 5 [(0, .ref aT), (1, .int p1), (3, .int x3), (4, .int x4)] → W p l e (headSpec wsX13_chooses ({ frames := 1, cells := 0, slots := 0, locals := 60 } : Room)).room s m ([.ref aT, .int p1, .int p2] : List Value).toArray below meth c H locs 0 0 (MQ below (va_Qi (fun (r : Int32) (u : (Nat → Int32)) => r = bI RR.1 ∧ u = RR.2) (zAt G (zTy tt) A (fun u : (Nat → Int32) => zW [[(aT, .inr (12, [.ref aCol, .int vTa, .ref aFa, .ref aRu, .int vRc, .ref aRo, .ref aLa, .ref aVa]))], [(aVa, .inl (tt 0, 4, .inl u))]])) A) ([.ref aT, .int p1, .int p2] : List Value).toArray s 0 0 A) (F0 m 5 ls []) := by
    intro k5
    induction k5 with
    | zero => intro x3 x4 vVa H locs ls hF; rw [hX13_chooses_5] at hF; cases hF
    | succ k5 ih5 =>
      have hb46 : ∀ (x3 : Int32) (x4 : Int32) (vVa : Nat → Int32)  (H : Heap) (locs : List Loc) (ls : Array Slot), hX13_chooses_46 K p1 p2 (hX13_chooses_5 K p1 p2 k5) x3 x4 vVa = some RR → va_P G vwCl (zW [[(aT, .inr (12, [.ref aCol, .int vTa, .ref aFa, .ref aRu, .int vRc, .ref aRo, .ref aLa, .ref aVa]))], [(aVa, .inl (tt 0, 4, .inl vVa))]]) H → va_D A (zW [[(aT, .inr (12, [.ref aCol, .int vTa, .ref aFa, .ref aRu, .int vRc, .ref aRo, .ref aLa, .ref aVa]))], [(aVa, .inl (tt 0, 4, .inl vVa))]]) → va_S A s.heap H locs → lv_has ls 5 [(0, .ref aT), (1, .int p1), (3, .int x3), (4, .int x4)] → W p l e (headSpec wsX13_chooses ({ frames := 1, cells := 0, slots := 0, locals := 60 } : Room)).room s m ([.ref aT, .int p1, .int p2] : List Value).toArray below meth c H locs 0 0 (MQ below (va_Qi (fun (r : Int32) (u : (Nat → Int32)) => r = bI RR.1 ∧ u = RR.2) (zAt G (zTy tt) A (fun u : (Nat → Int32) => zW [[(aT, .inr (12, [.ref aCol, .int vTa, .ref aFa, .ref aRu, .int vRc, .ref aRo, .ref aLa, .ref aVa]))], [(aVa, .inl (tt 0, 4, .inl u))]])) A) ([.ref aT, .int p1, .int p2] : List Value).toArray s 0 0 A) (F0 m 46 ls []) := by
        intro x3 x4 vVa H locs ls hF hP hD hS hl
        unfold hX13_chooses_46 at hF
        refine lv_iinc (v := (x4 + (1 : Int32))) (lv' := [(4, .int (x4 + (1 : Int32))), (0, .ref aT), (1, .int p1), (3, .int x3)]) hx hb dX13_chooses_46 hl (k := 3) rfl rfl (by decide) rfl (fun ls hl => ?_)
        refine lv_goto (tgt := 5) hx hb dX13_chooses_49 (by decide) ?_
        exact ih5 _ _ _ _ _ _ hF hP hD hS (lv_sub hl [1, 2, 3, 0] rfl)
      intro x3 x4 vVa H locs ls hF hP hD hS hl
      rw [hX13_chooses_5] at hF
      refine lv_iload hx hb dX13_chooses_5 (lv_at hl 3 rfl) ?_
      refine lv_iconst (v := (4 : Int32)) hx hb dX13_chooses_7 (by decide) ?_
      refine lv_icmp_ge (tgt := 52) hx hb dX13_chooses_8 (by decide) (fun c_8 => ?_) (fun c_8 => ?_)
      · have hF := z_t c_8 hF
        refine lv_iload_n hx hb dX13_chooses_52 rfl (lv_at hl 2 rfl) ?_
        refine lv_if_ne (tgt := 60) hx hb dX13_chooses_53 (by decide) (fun c_53 => ?_) (fun c_53 => ?_)
        · have hF := z_f c_53 hF
          refine lv_iconst (v := (0 : Int32)) hx hb dX13_chooses_60 (by decide) ?_
          have hp9 : (zW [[(aT, .inr (12, [.ref aCol, .int vTa, .ref aFa, .ref aRu, .int vRc, .ref aRo, .ref aLa, .ref aVa]))], [(aVa, .inl (tt 0, 4, .inl vVa))]]).Perm (zW [[(aT, .inr (12, [.ref aCol, .int vTa, .ref aFa, .ref aRu, .int vRc, .ref aRo, .ref aLa, .ref aVa]))], [(aVa, .inl (tt 0, 4, .inl vVa))]] ++ zW []) := zS_cut (is := [0, 1]) (js := []) 2 rfl rfl rfl (by decide)
          have hP9 : va_P G vwCl (zW [[(aT, .inr (12, [.ref aCol, .int vTa, .ref aFa, .ref aRu, .int vRc, .ref aRo, .ref aLa, .ref aVa]))], [(aVa, .inl (tt 0, 4, .inl vVa))]]) H := zS_subP hp9 hP
          have hD9 : va_D A (zW [[(aT, .inr (12, [.ref aCol, .int vTa, .ref aFa, .ref aRu, .int vRc, .ref aRo, .ref aLa, .ref aVa]))], [(aVa, .inl (tt 0, 4, .inl vVa))]]) := zS_subD hp9 hD
          have hR := Option.some.inj hF
          exact W.zret (v := (0 : Int32)) hx hb hr rfl (fun t ht hW => ⟨⟨(0 : Int32), (vVa), rfl, (by subst hR; exact ⟨rfl, rfl⟩), by rw [ht]; exact hP9, va_K.moved hW.alike hK, hD9⟩, hS.F ht⟩) hS.2.2 dX13_chooses_61
        · have hF := z_t c_53 hF
          refine lv_iconst (v := (1 : Int32)) hx hb dX13_chooses_56 (by decide) ?_
          refine lv_goto (tgt := 61) hx hb dX13_chooses_57 (by decide) ?_
          have hp9 : (zW [[(aT, .inr (12, [.ref aCol, .int vTa, .ref aFa, .ref aRu, .int vRc, .ref aRo, .ref aLa, .ref aVa]))], [(aVa, .inl (tt 0, 4, .inl vVa))]]).Perm (zW [[(aT, .inr (12, [.ref aCol, .int vTa, .ref aFa, .ref aRu, .int vRc, .ref aRo, .ref aLa, .ref aVa]))], [(aVa, .inl (tt 0, 4, .inl vVa))]] ++ zW []) := zS_cut (is := [0, 1]) (js := []) 2 rfl rfl rfl (by decide)
          have hP9 : va_P G vwCl (zW [[(aT, .inr (12, [.ref aCol, .int vTa, .ref aFa, .ref aRu, .int vRc, .ref aRo, .ref aLa, .ref aVa]))], [(aVa, .inl (tt 0, 4, .inl vVa))]]) H := zS_subP hp9 hP
          have hD9 : va_D A (zW [[(aT, .inr (12, [.ref aCol, .int vTa, .ref aFa, .ref aRu, .int vRc, .ref aRo, .ref aLa, .ref aVa]))], [(aVa, .inl (tt 0, 4, .inl vVa))]]) := zS_subD hp9 hD
          have hR := Option.some.inj hF
          exact W.zret (v := (1 : Int32)) hx hb hr rfl (fun t ht hW => ⟨⟨(1 : Int32), (vVa), rfl, (by subst hR; exact ⟨rfl, rfl⟩), by rw [ht]; exact hP9, va_K.moved hW.alike hK, hD9⟩, hS.F ht⟩) hS.2.2 dX13_chooses_61
      · have hF := z_f c_8 hF
        refine lv_aload_n hx hb dX13_chooses_11 rfl (lv_at hl 0 rfl) ?_
        obtain ⟨k_12, hk_12, hs_12⟩ := zS_one hP 0 rfl
        refine va_get (D := G) (ci := 12) (v := .ref aVa) (C := RX13) (T := TX13) (N := 8) hx hb hts hiX13 hown hK hP k_12 hk_12 rfl 7 (by decide) (hts (.fieldLink RX13 35 "LeapTablesLaw$Told" "value" "[I") (List.mem_of_getElem? (i := 1) rfl)) (fun _ h9 => h9) rfl dX13_chooses_12 ?_
        refine lv_iload hx hb dX13_chooses_15 (lv_at hl 3 rfl) ?_
        refine lv_iconst (v := (0 : Int32)) hx hb dX13_chooses_17 (by decide) ?_
        obtain ⟨h_18, hF⟩ := z_in hF
        obtain ⟨k_18, hk_18, hs_18⟩ := zS_one hP 1 rfl
        refine va_iast hx hb hK hP hD hS k_18 0 hk_18 rfl h_18 dX13_chooses_18 (fun H locs hP hD hS => ?_)
        rw [hs_18] at hP hD
        have hP : va_P G vwCl (zW [[(aT, .inr (12, [.ref aCol, .int vTa, .ref aFa, .ref aRu, .int vRc, .ref aRo, .ref aLa, .ref aVa]))], [(aVa, .inl (tt 0, 4, .inl (upd vVa x4.toNatClampNeg (0 : Int32))))]]) H := hP
        have hD : va_D A (zW [[(aT, .inr (12, [.ref aCol, .int vTa, .ref aFa, .ref aRu, .int vRc, .ref aRo, .ref aLa, .ref aVa]))], [(aVa, .inl (tt 0, 4, .inl (upd vVa x4.toNatClampNeg (0 : Int32))))]]) := hD
        refine lv_iload_n hx hb dX13_chooses_19 rfl (lv_at hl 1 rfl) ?_
        refine lv_iload hx hb dX13_chooses_20 (lv_at hl 3 rfl) ?_
        refine lv_ishr hx hb dX13_chooses_22 ?_
        refine lv_iconst (v := (1 : Int32)) hx hb dX13_chooses_23 (by decide) ?_
        refine lv_iand hx hb dX13_chooses_24 ?_
        refine lv_if_ne (tgt := 31) hx hb dX13_chooses_25 (by decide) (fun c_25 => ?_) (fun c_25 => ?_)
        · have hF := z_f c_25 hF
          refine lv_aload_n hx hb dX13_chooses_31 rfl (lv_at hl 0 rfl) ?_
          obtain ⟨k_32, hk_32, hs_32⟩ := zS_one hP 0 rfl
          refine va_get (D := G) (ci := 12) (v := .ref aVa) (C := RX13) (T := TX13) (N := 8) hx hb hts hiX13 hown hK hP k_32 hk_32 rfl 7 (by decide) (hts (.fieldLink RX13 35 "LeapTablesLaw$Told" "value" "[I") (List.mem_of_getElem? (i := 1) rfl)) (fun _ h9 => h9) rfl dX13_chooses_32 ?_
          refine lv_iload hx hb dX13_chooses_35 (lv_at hl 3 rfl) ?_
          refine lv_iload_n hx hb dX13_chooses_37 rfl (lv_at hl 2 rfl) ?_
          refine lv_bipush (v := (7 : Int32)) hx hb dX13_chooses_38 (by decide) ?_
          refine lv_iand hx hb dX13_chooses_40 ?_
          obtain ⟨h_41, hF⟩ := z_in hF
          obtain ⟨k_41, hk_41, hs_41⟩ := zS_one hP 1 rfl
          refine va_iast hx hb hK hP hD hS k_41 0 hk_41 rfl h_41 dX13_chooses_41 (fun H locs hP hD hS => ?_)
          rw [hs_41] at hP hD
          have hP : va_P G vwCl (zW [[(aT, .inr (12, [.ref aCol, .int vTa, .ref aFa, .ref aRu, .int vRc, .ref aRo, .ref aLa, .ref aVa]))], [(aVa, .inl (tt 0, 4, .inl (upd (upd vVa x4.toNatClampNeg (0 : Int32)) x4.toNatClampNeg (x3 &&& (7 : Int32)))))]]) H := hP
          have hD : va_D A (zW [[(aT, .inr (12, [.ref aCol, .int vTa, .ref aFa, .ref aRu, .int vRc, .ref aRo, .ref aLa, .ref aVa]))], [(aVa, .inl (tt 0, 4, .inl (upd (upd vVa x4.toNatClampNeg (0 : Int32)) x4.toNatClampNeg (x3 &&& (7 : Int32)))))]]) := hD
          refine lv_iload_n hx hb dX13_chooses_42 rfl (lv_at hl 2 rfl) ?_
          refine lv_iconst (v := (3 : Int32)) hx hb dX13_chooses_43 (by decide) ?_
          refine lv_ishr hx hb dX13_chooses_44 ?_
          refine lv_istore_n (lv' := [(3, .int (x3 >>> ((3 : Int32) &&& 31))), (0, .ref aT), (1, .int p1), (4, .int x4)]) hx hb dX13_chooses_45 rfl hl (by decide) rfl (fun ls hl => ?_)
          exact hb46 _ _ _ _ _ _ hF hP hD hS (lv_sub hl [1, 2, 0, 3] rfl)
        · have hF := z_t c_25 hF
          refine lv_goto (tgt := 46) hx hb dX13_chooses_28 (by decide) ?_
          exact hb46 _ _ _ _ _ _ hF hP hD hS (lv_sub hl [0, 1, 2, 3] rfl)
  obtain ⟨H, hHe⟩ : ∃ H : Heap, s.heap = H := ⟨_, rfl⟩
  have hS : va_S A s.heap H [] := by rw [← hHe]; exact va_S.rf
  rw [hHe] at hP ⊢
  unfold hX13_chooses at hF
  refine lv_iload_n hx hb dX13_chooses_0 rfl (lv_at hl 2 rfl) ?_
  refine lv_istore_n (lv' := [(3, .int p2), (0, .ref aT), (1, .int p1), (2, .int p2)]) hx hb dX13_chooses_1 rfl hl (by decide) rfl (fun ls hl => ?_)
  refine lv_iconst (v := (0 : Int32)) hx hb dX13_chooses_2 (by decide) ?_
  refine lv_istore (lv' := [(4, .int (0 : Int32)), (3, .int p2), (0, .ref aT), (1, .int p1), (2, .int p2)]) hx hb dX13_chooses_3 hl (by decide) rfl (fun ls hl => ?_)
  exact hb5 K _ _ _ _ _ _ hF hP hD hS (lv_sub hl [2, 3, 1, 0] rfl)

set_option maxHeartbeats 8000000 in
set_option maxRecDepth 100000 in
theorem oX13_gives (l : Launch) (G : va_G) (tt : Nat → ClassId) (sa : Nat → Nat) (hlt : l.stackTraces = false) (sz : Nat) (K : Nat) (aT : Nat) (aCol : Nat) (aFa : Nat) (aRu : Nat) (aRo : Nat) (aLa : Nat) (aVa : Nat) (eRu : Nat → Nat) (eRo : Nat → Nat) (vTa : Int32) (vRc : Int32) (vCol : Nat → Int32) (vRu : Nat → Nat → Int32) (vRo : Nat → Nat → Int32) (vVa : Nat → Int32) (p1 : Int32) (RR : Bool) (hF : hX13_gives K vCol vRu vRo vVa p1 = some RR) : Met l yX13_gives wsX13_gives ({ frames := 3, cells := 0, slots := 0, locals := 106 } : Room) (zPreQ G (zTy tt) sa [.ref aT, .int p1] sz (zW [[(aT, .inr (12, [.ref aCol, .int vTa, .ref aFa, .ref aRu, .int vRc, .ref aRo, .ref aLa, .ref aVa]))], [(aCol, .inl (tt 0, 5, .inl vCol))], [(aRu, .inl (tt 5, 5, .inr (.inr (.inr (.inr (fun j => some (eRu j)))))))], (wA eRu (tt 0) 5 25 vRu), [(aRo, .inl (tt 6, 5, .inr (.inr (.inr (.inr (fun j => some (eRo j)))))))], (wA eRo (tt 2) 5 512 vRo), [(aVa, .inl (tt 0, 4, .inl vVa))]])) (va_Qi (fun (r : Int32) (_ : Unit) => r = bI RR) (zAt G (zTy tt) (va_A (zW [[(aT, .inr (12, [.ref aCol, .int vTa, .ref aFa, .ref aRu, .int vRc, .ref aRo, .ref aLa, .ref aVa]))], [(aCol, .inl (tt 0, 5, .inl vCol))], [(aRu, .inl (tt 5, 5, .inr (.inr (.inr (.inr (fun j => some (eRu j)))))))], (wA eRu (tt 0) 5 25 vRu), [(aRo, .inl (tt 6, 5, .inr (.inr (.inr (.inr (fun j => some (eRo j)))))))], (wA eRo (tt 2) 5 512 vRo), [(aVa, .inl (tt 0, 4, .inl vVa))]]) sz) (fun _ : Unit => zW [[(aT, .inr (12, [.ref aCol, .int vTa, .ref aFa, .ref aRu, .int vRc, .ref aRo, .ref aLa, .ref aVa]))], [(aCol, .inl (tt 0, 5, .inl vCol))], [(aRu, .inl (tt 5, 5, .inr (.inr (.inr (.inr (fun j => some (eRu j)))))))], (wA eRu (tt 0) 5 25 vRu), [(aRo, .inl (tt 6, 5, .inr (.inr (.inr (.inr (fun j => some (eRo j)))))))], (wA eRo (tt 2) 5 512 vRo), [(aVa, .inl (tt 0, 4, .inl vVa))]])) (va_A (zW [[(aT, .inr (12, [.ref aCol, .int vTa, .ref aFa, .ref aRu, .int vRc, .ref aRo, .ref aLa, .ref aVa]))], [(aCol, .inl (tt 0, 5, .inl vCol))], [(aRu, .inl (tt 5, 5, .inr (.inr (.inr (.inr (fun j => some (eRu j)))))))], (wA eRu (tt 0) 5 25 vRu), [(aRo, .inl (tt 6, 5, .inr (.inr (.inr (.inr (fun j => some (eRo j)))))))], (wA eRo (tt 2) 5 512 vRo), [(aVa, .inl (tt 0, 4, .inl vVa))]]) sz)) 0 0 (va_A (zW [[(aT, .inr (12, [.ref aCol, .int vTa, .ref aFa, .ref aRu, .int vRc, .ref aRo, .ref aLa, .ref aVa]))], [(aCol, .inl (tt 0, 5, .inl vCol))], [(aRu, .inl (tt 5, 5, .inr (.inr (.inr (.inr (fun j => some (eRu j)))))))], (wA eRu (tt 0) 5 25 vRu), [(aRo, .inl (tt 6, 5, .inr (.inr (.inr (.inr (fun j => some (eRo j)))))))], (wA eRo (tt 2) 5 512 vRo), [(aVa, .inl (tt 0, 4, .inl vVa))]]) sz) := by
  refine Met.ofW (cc := cX13_gives) (maxL := 4) (ret := (some .boolean)) (by decide +kernel) rfl ?_
  intro p e s m args below meth c s₁ B hml hv
  obtain ⟨rfl, hsz, hP, hK, hD0, hN, hX, hO, hAA⟩ := hv
  have hx := B.exec
  have hb := B.bytes
  have hr := B.returns
  have hts := atoms_spec (ws := wsX13_gives) B.pre
  have hown : s.vm.findClass RX13 = some m.cls := findClass_of_methodNamed B.named
  have hlocks := B.notSynchronized
  subst hsz
  have hD := hD0.self (sz := s.heap.size)
  generalize hAe : va_A (zW [[(aT, .inr (12, [.ref aCol, .int vTa, .ref aFa, .ref aRu, .int vRc, .ref aRo, .ref aLa, .ref aVa]))], [(aCol, .inl (tt 0, 5, .inl vCol))], [(aRu, .inl (tt 5, 5, .inr (.inr (.inr (.inr (fun j => some (eRu j)))))))], (wA eRu (tt 0) 5 25 vRu), [(aRo, .inl (tt 6, 5, .inr (.inr (.inr (.inr (fun j => some (eRo j)))))))], (wA eRo (tt 2) 5 512 vRo), [(aVa, .inl (tt 0, 4, .inl vVa))]]) s.heap.size = A at hD hX ⊢
  have hA : ∀ q : Nat, s.heap.size ≤ q → A q := fun q h => by rw [← hAe]; exact Or.inr h
  have hP : va_P G vwCl (zW [[(aT, .inr (12, [.ref aCol, .int vTa, .ref aFa, .ref aRu, .int vRc, .ref aRo, .ref aLa, .ref aVa]))], [(aCol, .inl (tt 0, 5, .inl vCol))], [(aRu, .inl (tt 5, 5, .inr (.inr (.inr (.inr (fun j => some (eRu j)))))))], (wA eRu (tt 0) 5 25 vRu), [(aRo, .inl (tt 6, 5, .inr (.inr (.inr (.inr (fun j => some (eRo j)))))))], (wA eRo (tt 2) 5 512 vRo), [(aVa, .inl (tt 0, 4, .inl vVa))]]) s.heap := hP
  have hiX13 : ∀ w ∈ wsX130, w ∈ wsX13_gives := by decide +kernel
  have hl := lv_entry ([.ref aT, .int p1]) (n := 4) (Nat.le_of_ble_eq_true rfl)
  rw [lg_entry_eq]
  generalize (lg_sl ([.ref aT, .int p1]) ++ List.replicate (4 - (lg_sl ([.ref aT, .int p1])).length) Slot.unset).toArray = ls at hl ⊢
  have hl : lv_has ls 4 [(0, .ref aT), (1, .int p1)] := hl
  have hb4 : ∀ (k4 : Nat), ∀ (x2 : Int32) (x3 : Int32)  (H : Heap) (locs : List Loc) (ls : Array Slot), hX13_gives_4 K vCol vRu vRo vVa p1 k4 x2 x3 = some RR → va_P G vwCl (zW [[(aT, .inr (12, [.ref aCol, .int vTa, .ref aFa, .ref aRu, .int vRc, .ref aRo, .ref aLa, .ref aVa]))], [(aCol, .inl (tt 0, 5, .inl vCol))], [(aRu, .inl (tt 5, 5, .inr (.inr (.inr (.inr (fun j => some (eRu j)))))))], (wA eRu (tt 0) 5 25 vRu), [(aRo, .inl (tt 6, 5, .inr (.inr (.inr (.inr (fun j => some (eRo j)))))))], (wA eRo (tt 2) 5 512 vRo), [(aVa, .inl (tt 0, 4, .inl vVa))]]) H → va_D A (zW [[(aT, .inr (12, [.ref aCol, .int vTa, .ref aFa, .ref aRu, .int vRc, .ref aRo, .ref aLa, .ref aVa]))], [(aCol, .inl (tt 0, 5, .inl vCol))], [(aRu, .inl (tt 5, 5, .inr (.inr (.inr (.inr (fun j => some (eRu j)))))))], (wA eRu (tt 0) 5 25 vRu), [(aRo, .inl (tt 6, 5, .inr (.inr (.inr (.inr (fun j => some (eRo j)))))))], (wA eRo (tt 2) 5 512 vRo), [(aVa, .inl (tt 0, 4, .inl vVa))]]) → va_S A s.heap H locs → lv_has ls 4 [(0, .ref aT), (1, .int p1), (2, .int x2), (3, .int x3)] → W p l e (headSpec wsX13_gives ({ frames := 3, cells := 0, slots := 0, locals := 106 } : Room)).room s m ([.ref aT, .int p1] : List Value).toArray below meth c H locs 0 0 (MQ below (va_Qi (fun (r : Int32) (_ : Unit) => r = bI RR) (zAt G (zTy tt) A (fun _ : Unit => zW [[(aT, .inr (12, [.ref aCol, .int vTa, .ref aFa, .ref aRu, .int vRc, .ref aRo, .ref aLa, .ref aVa]))], [(aCol, .inl (tt 0, 5, .inl vCol))], [(aRu, .inl (tt 5, 5, .inr (.inr (.inr (.inr (fun j => some (eRu j)))))))], (wA eRu (tt 0) 5 25 vRu), [(aRo, .inl (tt 6, 5, .inr (.inr (.inr (.inr (fun j => some (eRo j)))))))], (wA eRo (tt 2) 5 512 vRo), [(aVa, .inl (tt 0, 4, .inl vVa))]])) A) ([.ref aT, .int p1] : List Value).toArray s 0 0 A) (F0 m 4 ls []) := by
    intro k4
    induction k4 with
    | zero => intro x2 x3 H locs ls hF; rw [hX13_gives_4] at hF; cases hF
    | succ k4 ih4 =>
      have hb65 : ∀ (x3 : Int32) (t0 : Int32)  (H : Heap) (locs : List Loc) (ls : Array Slot), hX13_gives_65 K vCol vRu vRo vVa p1 (hX13_gives_4 K vCol vRu vRo vVa p1 k4) x3 t0 = some RR → va_P G vwCl (zW [[(aT, .inr (12, [.ref aCol, .int vTa, .ref aFa, .ref aRu, .int vRc, .ref aRo, .ref aLa, .ref aVa]))], [(aCol, .inl (tt 0, 5, .inl vCol))], [(aRu, .inl (tt 5, 5, .inr (.inr (.inr (.inr (fun j => some (eRu j)))))))], (wA eRu (tt 0) 5 25 vRu), [(aRo, .inl (tt 6, 5, .inr (.inr (.inr (.inr (fun j => some (eRo j)))))))], (wA eRo (tt 2) 5 512 vRo), [(aVa, .inl (tt 0, 4, .inl vVa))]]) H → va_D A (zW [[(aT, .inr (12, [.ref aCol, .int vTa, .ref aFa, .ref aRu, .int vRc, .ref aRo, .ref aLa, .ref aVa]))], [(aCol, .inl (tt 0, 5, .inl vCol))], [(aRu, .inl (tt 5, 5, .inr (.inr (.inr (.inr (fun j => some (eRu j)))))))], (wA eRu (tt 0) 5 25 vRu), [(aRo, .inl (tt 6, 5, .inr (.inr (.inr (.inr (fun j => some (eRo j)))))))], (wA eRo (tt 2) 5 512 vRo), [(aVa, .inl (tt 0, 4, .inl vVa))]]) → va_S A s.heap H locs → lv_has ls 4 [(0, .ref aT), (1, .int p1), (3, .int x3)] → W p l e (headSpec wsX13_gives ({ frames := 3, cells := 0, slots := 0, locals := 106 } : Room)).room s m ([.ref aT, .int p1] : List Value).toArray below meth c H locs 0 0 (MQ below (va_Qi (fun (r : Int32) (_ : Unit) => r = bI RR) (zAt G (zTy tt) A (fun _ : Unit => zW [[(aT, .inr (12, [.ref aCol, .int vTa, .ref aFa, .ref aRu, .int vRc, .ref aRo, .ref aLa, .ref aVa]))], [(aCol, .inl (tt 0, 5, .inl vCol))], [(aRu, .inl (tt 5, 5, .inr (.inr (.inr (.inr (fun j => some (eRu j)))))))], (wA eRu (tt 0) 5 25 vRu), [(aRo, .inl (tt 6, 5, .inr (.inr (.inr (.inr (fun j => some (eRo j)))))))], (wA eRo (tt 2) 5 512 vRo), [(aVa, .inl (tt 0, 4, .inl vVa))]])) A) ([.ref aT, .int p1] : List Value).toArray s 0 0 A) (F0 m 65 ls [.int t0]) := by
        intro x3 t0 H locs ls hF hP hD hS hl
        unfold hX13_gives_65 at hF
        refine lv_istore_n (lv' := [(2, .int t0), (0, .ref aT), (1, .int p1), (3, .int x3)]) hx hb dX13_gives_65 rfl hl (by decide) rfl (fun ls hl => ?_)
        refine lv_iinc (v := (x3 + (1 : Int32))) (lv' := [(3, .int (x3 + (1 : Int32))), (2, .int t0), (0, .ref aT), (1, .int p1)]) hx hb dX13_gives_66 hl (k := 3) rfl rfl (by decide) rfl (fun ls hl => ?_)
        refine lv_goto (tgt := 4) hx hb dX13_gives_69 (by decide) ?_
        exact ih4 _ _ _ _ _ hF hP hD hS (lv_sub hl [2, 3, 1, 0] rfl)
      have hb57 : ∀ (x3 : Int32) (t0 : Int32) (t1 : Int32)  (H : Heap) (locs : List Loc) (ls : Array Slot), hX13_gives_57 K vCol vRu vRo vVa p1 (hX13_gives_4 K vCol vRu vRo vVa p1 k4) x3 t0 t1 = some RR → va_P G vwCl (zW [[(aT, .inr (12, [.ref aCol, .int vTa, .ref aFa, .ref aRu, .int vRc, .ref aRo, .ref aLa, .ref aVa]))], [(aCol, .inl (tt 0, 5, .inl vCol))], [(aRu, .inl (tt 5, 5, .inr (.inr (.inr (.inr (fun j => some (eRu j)))))))], (wA eRu (tt 0) 5 25 vRu), [(aRo, .inl (tt 6, 5, .inr (.inr (.inr (.inr (fun j => some (eRo j)))))))], (wA eRo (tt 2) 5 512 vRo), [(aVa, .inl (tt 0, 4, .inl vVa))]]) H → va_D A (zW [[(aT, .inr (12, [.ref aCol, .int vTa, .ref aFa, .ref aRu, .int vRc, .ref aRo, .ref aLa, .ref aVa]))], [(aCol, .inl (tt 0, 5, .inl vCol))], [(aRu, .inl (tt 5, 5, .inr (.inr (.inr (.inr (fun j => some (eRu j)))))))], (wA eRu (tt 0) 5 25 vRu), [(aRo, .inl (tt 6, 5, .inr (.inr (.inr (.inr (fun j => some (eRo j)))))))], (wA eRo (tt 2) 5 512 vRo), [(aVa, .inl (tt 0, 4, .inl vVa))]]) → va_S A s.heap H locs → lv_has ls 4 [(0, .ref aT), (1, .int p1), (3, .int x3)] → W p l e (headSpec wsX13_gives ({ frames := 3, cells := 0, slots := 0, locals := 106 } : Room)).room s m ([.ref aT, .int p1] : List Value).toArray below meth c H locs 0 0 (MQ below (va_Qi (fun (r : Int32) (_ : Unit) => r = bI RR) (zAt G (zTy tt) A (fun _ : Unit => zW [[(aT, .inr (12, [.ref aCol, .int vTa, .ref aFa, .ref aRu, .int vRc, .ref aRo, .ref aLa, .ref aVa]))], [(aCol, .inl (tt 0, 5, .inl vCol))], [(aRu, .inl (tt 5, 5, .inr (.inr (.inr (.inr (fun j => some (eRu j)))))))], (wA eRu (tt 0) 5 25 vRu), [(aRo, .inl (tt 6, 5, .inr (.inr (.inr (.inr (fun j => some (eRo j)))))))], (wA eRo (tt 2) 5 512 vRo), [(aVa, .inl (tt 0, 4, .inl vVa))]])) A) ([.ref aT, .int p1] : List Value).toArray s 0 0 A) (F0 m 57 ls [.int t1, .int t0]) := by
        intro x3 t0 t1 H locs ls hF hP hD hS hl
        unfold hX13_gives_57 at hF
        refine lv_icmp_eq (tgt := 64) hx hb dX13_gives_57 (by decide) (fun c_57 => ?_) (fun c_57 => ?_)
        · have hF := z_t c_57 hF
          refine lv_iconst (v := (0 : Int32)) hx hb dX13_gives_64 (by decide) ?_
          exact hb65 _ _ _ _ _ hF hP hD hS (lv_sub hl [0, 1, 2] rfl)
        · have hF := z_f c_57 hF
          refine lv_iconst (v := (1 : Int32)) hx hb dX13_gives_60 (by decide) ?_
          refine lv_goto (tgt := 65) hx hb dX13_gives_61 (by decide) ?_
          exact hb65 _ _ _ _ _ hF hP hD hS (lv_sub hl [0, 1, 2] rfl)
      intro x2 x3 H locs ls hF hP hD hS hl
      rw [hX13_gives_4] at hF
      refine lv_iload_n hx hb dX13_gives_4 rfl (lv_at hl 3 rfl) ?_
      refine lv_aload_n hx hb dX13_gives_5 rfl (lv_at hl 0 rfl) ?_
      obtain ⟨k_6, hk_6, hs_6⟩ := zS_one hP 0 rfl
      refine va_get (D := G) (ci := 12) (v := .ref aRu) (C := RX13) (T := TX13) (N := 8) hx hb hts hiX13 hown hK hP k_6 hk_6 rfl 3 (by decide) (hts (.fieldLink RX13 26 "LeapTablesLaw$Told" "rules" "[[I") (List.mem_of_getElem? (i := 1) rfl)) (fun _ h9 => h9) rfl dX13_gives_6 ?_
      refine lv_iload_n hx hb dX13_gives_9 rfl (lv_at hl 1 rfl) ?_
      obtain ⟨h_10, hF⟩ := z_in hF
      obtain ⟨k_10, hk_10, hs_10⟩ := zS_one hP 2 rfl
      refine zA_aald (f := eRu) hx hb hK hP k_10 5 hk_10 rfl h_10 dX13_gives_10 ?_
      refine lv_iconst (v := (4 : Int32)) hx hb dX13_gives_11 (by decide) ?_
      obtain ⟨h_12, hF⟩ := z_in hF
      obtain ⟨k_12, hk_12, hs_12⟩ := zS_fam hP 3 rfl (zlt_of h_10)
      refine va_iald hx hb hK hP k_12 0 hk_12 rfl h_12 dX13_gives_12 ?_
      refine lv_icmp_ge (tgt := 72) hx hb dX13_gives_13 (by decide) (fun c_13 => ?_) (fun c_13 => ?_)
      · have hF := z_t c_13 hF
        refine lv_iload_n hx hb dX13_gives_72 rfl (lv_at hl 2 rfl) ?_
        have hp9 : (zW [[(aT, .inr (12, [.ref aCol, .int vTa, .ref aFa, .ref aRu, .int vRc, .ref aRo, .ref aLa, .ref aVa]))], [(aCol, .inl (tt 0, 5, .inl vCol))], [(aRu, .inl (tt 5, 5, .inr (.inr (.inr (.inr (fun j => some (eRu j)))))))], (wA eRu (tt 0) 5 25 vRu), [(aRo, .inl (tt 6, 5, .inr (.inr (.inr (.inr (fun j => some (eRo j)))))))], (wA eRo (tt 2) 5 512 vRo), [(aVa, .inl (tt 0, 4, .inl vVa))]]).Perm (zW [[(aT, .inr (12, [.ref aCol, .int vTa, .ref aFa, .ref aRu, .int vRc, .ref aRo, .ref aLa, .ref aVa]))], [(aCol, .inl (tt 0, 5, .inl vCol))], [(aRu, .inl (tt 5, 5, .inr (.inr (.inr (.inr (fun j => some (eRu j)))))))], (wA eRu (tt 0) 5 25 vRu), [(aRo, .inl (tt 6, 5, .inr (.inr (.inr (.inr (fun j => some (eRo j)))))))], (wA eRo (tt 2) 5 512 vRo), [(aVa, .inl (tt 0, 4, .inl vVa))]] ++ zW []) := zS_cut (is := [0, 1, 2, 3, 4, 5, 6]) (js := []) 7 rfl rfl rfl (by decide)
        have hP9 : va_P G vwCl (zW [[(aT, .inr (12, [.ref aCol, .int vTa, .ref aFa, .ref aRu, .int vRc, .ref aRo, .ref aLa, .ref aVa]))], [(aCol, .inl (tt 0, 5, .inl vCol))], [(aRu, .inl (tt 5, 5, .inr (.inr (.inr (.inr (fun j => some (eRu j)))))))], (wA eRu (tt 0) 5 25 vRu), [(aRo, .inl (tt 6, 5, .inr (.inr (.inr (.inr (fun j => some (eRo j)))))))], (wA eRo (tt 2) 5 512 vRo), [(aVa, .inl (tt 0, 4, .inl vVa))]]) H := zS_subP hp9 hP
        have hD9 : va_D A (zW [[(aT, .inr (12, [.ref aCol, .int vTa, .ref aFa, .ref aRu, .int vRc, .ref aRo, .ref aLa, .ref aVa]))], [(aCol, .inl (tt 0, 5, .inl vCol))], [(aRu, .inl (tt 5, 5, .inr (.inr (.inr (.inr (fun j => some (eRu j)))))))], (wA eRu (tt 0) 5 25 vRu), [(aRo, .inl (tt 6, 5, .inr (.inr (.inr (.inr (fun j => some (eRo j)))))))], (wA eRo (tt 2) 5 512 vRo), [(aVa, .inl (tt 0, 4, .inl vVa))]]) := zS_subD hp9 hD
        refine lv_topi (fun y_73 ey_73 => ?_)
        rcases z_bool hF with ⟨eb, hF⟩ | ⟨eb, hF⟩
        · have ez := ey_73.trans eb
          subst ez
          have hR := Option.some.inj hF
          exact W.zret (v := (0 : Int32)) hx hb hr rfl (fun t ht hW => ⟨⟨(0 : Int32), (), rfl, (by subst hR; rfl), by rw [ht]; exact hP9, va_K.moved hW.alike hK, hD9⟩, hS.F ht⟩) hS.2.2 dX13_gives_73
        · have ez := ey_73.trans eb
          subst ez
          have hR := Option.some.inj hF
          exact W.zret (v := (1 : Int32)) hx hb hr rfl (fun t ht hW => ⟨⟨(1 : Int32), (), rfl, (by subst hR; rfl), by rw [ht]; exact hP9, va_K.moved hW.alike hK, hD9⟩, hS.F ht⟩) hS.2.2 dX13_gives_73
      · have hF := z_f c_13 hF
        refine lv_iload_n hx hb dX13_gives_16 rfl (lv_at hl 2 rfl) ?_
        refine lv_if_eq (tgt := 72) hx hb dX13_gives_17 (by decide) (fun c_17 => ?_) (fun c_17 => ?_)
        · have hF := z_t c_17 hF
          refine lv_iload_n hx hb dX13_gives_72 rfl (lv_at hl 2 rfl) ?_
          have hp9 : (zW [[(aT, .inr (12, [.ref aCol, .int vTa, .ref aFa, .ref aRu, .int vRc, .ref aRo, .ref aLa, .ref aVa]))], [(aCol, .inl (tt 0, 5, .inl vCol))], [(aRu, .inl (tt 5, 5, .inr (.inr (.inr (.inr (fun j => some (eRu j)))))))], (wA eRu (tt 0) 5 25 vRu), [(aRo, .inl (tt 6, 5, .inr (.inr (.inr (.inr (fun j => some (eRo j)))))))], (wA eRo (tt 2) 5 512 vRo), [(aVa, .inl (tt 0, 4, .inl vVa))]]).Perm (zW [[(aT, .inr (12, [.ref aCol, .int vTa, .ref aFa, .ref aRu, .int vRc, .ref aRo, .ref aLa, .ref aVa]))], [(aCol, .inl (tt 0, 5, .inl vCol))], [(aRu, .inl (tt 5, 5, .inr (.inr (.inr (.inr (fun j => some (eRu j)))))))], (wA eRu (tt 0) 5 25 vRu), [(aRo, .inl (tt 6, 5, .inr (.inr (.inr (.inr (fun j => some (eRo j)))))))], (wA eRo (tt 2) 5 512 vRo), [(aVa, .inl (tt 0, 4, .inl vVa))]] ++ zW []) := zS_cut (is := [0, 1, 2, 3, 4, 5, 6]) (js := []) 7 rfl rfl rfl (by decide)
          have hP9 : va_P G vwCl (zW [[(aT, .inr (12, [.ref aCol, .int vTa, .ref aFa, .ref aRu, .int vRc, .ref aRo, .ref aLa, .ref aVa]))], [(aCol, .inl (tt 0, 5, .inl vCol))], [(aRu, .inl (tt 5, 5, .inr (.inr (.inr (.inr (fun j => some (eRu j)))))))], (wA eRu (tt 0) 5 25 vRu), [(aRo, .inl (tt 6, 5, .inr (.inr (.inr (.inr (fun j => some (eRo j)))))))], (wA eRo (tt 2) 5 512 vRo), [(aVa, .inl (tt 0, 4, .inl vVa))]]) H := zS_subP hp9 hP
          have hD9 : va_D A (zW [[(aT, .inr (12, [.ref aCol, .int vTa, .ref aFa, .ref aRu, .int vRc, .ref aRo, .ref aLa, .ref aVa]))], [(aCol, .inl (tt 0, 5, .inl vCol))], [(aRu, .inl (tt 5, 5, .inr (.inr (.inr (.inr (fun j => some (eRu j)))))))], (wA eRu (tt 0) 5 25 vRu), [(aRo, .inl (tt 6, 5, .inr (.inr (.inr (.inr (fun j => some (eRo j)))))))], (wA eRo (tt 2) 5 512 vRo), [(aVa, .inl (tt 0, 4, .inl vVa))]]) := zS_subD hp9 hD
          refine lv_topi (fun y_73 ey_73 => ?_)
          rcases z_bool hF with ⟨eb, hF⟩ | ⟨eb, hF⟩
          · have ez := ey_73.trans eb
            subst ez
            have hR := Option.some.inj hF
            exact W.zret (v := (0 : Int32)) hx hb hr rfl (fun t ht hW => ⟨⟨(0 : Int32), (), rfl, (by subst hR; rfl), by rw [ht]; exact hP9, va_K.moved hW.alike hK, hD9⟩, hS.F ht⟩) hS.2.2 dX13_gives_73
          · have ez := ey_73.trans eb
            subst ez
            have hR := Option.some.inj hF
            exact W.zret (v := (1 : Int32)) hx hb hr rfl (fun t ht hW => ⟨⟨(1 : Int32), (), rfl, (by subst hR; rfl), by rw [ht]; exact hP9, va_K.moved hW.alike hK, hD9⟩, hS.F ht⟩) hS.2.2 dX13_gives_73
        · have hF := z_f c_17 hF
          refine lv_aload_n hx hb dX13_gives_20 rfl (lv_at hl 0 rfl) ?_
          refine lv_aload_n hx hb dX13_gives_21 rfl (lv_at hl 0 rfl) ?_
          obtain ⟨k_22, hk_22, hs_22⟩ := zS_one hP 0 rfl
          refine va_get (D := G) (ci := 12) (v := .ref aRu) (C := RX13) (T := TX13) (N := 8) hx hb hts hiX13 hown hK hP k_22 hk_22 rfl 3 (by decide) (hts (.fieldLink RX13 26 "LeapTablesLaw$Told" "rules" "[[I") (List.mem_of_getElem? (i := 1) rfl)) (fun _ h9 => h9) rfl dX13_gives_22 ?_
          refine lv_iload_n hx hb dX13_gives_25 rfl (lv_at hl 1 rfl) ?_
          obtain ⟨h_26, hF⟩ := z_in hF
          obtain ⟨k_26, hk_26, hs_26⟩ := zS_one hP 2 rfl
          refine zA_aald (f := eRu) hx hb hK hP k_26 5 hk_26 rfl h_26 dX13_gives_26 ?_
          refine lv_iconst (v := (5 : Int32)) hx hb dX13_gives_27 (by decide) ?_
          refine lv_iconst (v := (5 : Int32)) hx hb dX13_gives_28 (by decide) ?_
          refine lv_iload_n hx hb dX13_gives_29 rfl (lv_at hl 3 rfl) ?_
          refine lv_imul hx hb dX13_gives_30 ?_
          refine lv_iadd hx hb dX13_gives_31 ?_
          have hP := zP_perm (zS_pull (C := [[(aT, .inr (12, [.ref aCol, .int vTa, .ref aFa, .ref aRu, .int vRc, .ref aRo, .ref aLa, .ref aVa]))], [(aCol, .inl (tt 0, 5, .inl vCol))], [(aRu, .inl (tt 5, 5, .inr (.inr (.inr (.inr (fun j => some (eRu j)))))))], [(aRo, .inl (tt 6, 5, .inr (.inr (.inr (.inr (fun j => some (eRo j)))))))], (wA eRo (tt 2) 5 512 vRo), [(aVa, .inl (tt 0, 4, .inl vVa))]]) (is := [0, 1, 2, 4, 5, 6]) 7 rfl 3 rfl (zlt_of h_10) rfl (by decide)) hP
          have hD := zD_perm (zS_pull (C := [[(aT, .inr (12, [.ref aCol, .int vTa, .ref aFa, .ref aRu, .int vRc, .ref aRo, .ref aLa, .ref aVa]))], [(aCol, .inl (tt 0, 5, .inl vCol))], [(aRu, .inl (tt 5, 5, .inr (.inr (.inr (.inr (fun j => some (eRu j)))))))], [(aRo, .inl (tt 6, 5, .inr (.inr (.inr (.inr (fun j => some (eRo j)))))))], (wA eRo (tt 2) 5 512 vRo), [(aVa, .inl (tt 0, 4, .inl vVa))]]) (is := [0, 1, 2, 4, 5, 6]) 7 rfl 3 rfl (zlt_of h_10) rfl (by decide)) hD
          have hP : va_P G vwCl (zW [[(aT, .inr (12, [.ref aCol, .int vTa, .ref aFa, .ref aRu, .int vRc, .ref aRo, .ref aLa, .ref aVa]))], [(aCol, .inl (tt 0, 5, .inl vCol))], [(aRu, .inl (tt 5, 5, .inr (.inr (.inr (.inr (fun j => some (eRu j)))))))], [(aRo, .inl (tt 6, 5, .inr (.inr (.inr (.inr (fun j => some (eRo j)))))))], (wA eRo (tt 2) 5 512 vRo), [(aVa, .inl (tt 0, 4, .inl vVa))], [((eRu p1.toNatClampNeg), .inl (tt 0, 25, .inl (vRu p1.toNatClampNeg)))], (wAx eRu (tt 0) 5 25 vRu p1.toNatClampNeg)]) H := hP
          have hD : va_D A (zW [[(aT, .inr (12, [.ref aCol, .int vTa, .ref aFa, .ref aRu, .int vRc, .ref aRo, .ref aLa, .ref aVa]))], [(aCol, .inl (tt 0, 5, .inl vCol))], [(aRu, .inl (tt 5, 5, .inr (.inr (.inr (.inr (fun j => some (eRu j)))))))], [(aRo, .inl (tt 6, 5, .inr (.inr (.inr (.inr (fun j => some (eRo j)))))))], (wA eRo (tt 2) 5 512 vRo), [(aVa, .inl (tt 0, 4, .inl vVa))], [((eRu p1.toNatClampNeg), .inl (tt 0, 25, .inl (vRu p1.toNatClampNeg)))], (wAx eRu (tt 0) 5 25 vRu p1.toNatClampNeg)]) := hD
          obtain ⟨q32, hc_32, hF⟩ := z_bind hF
          have hp_32 : (zW [[(aT, .inr (12, [.ref aCol, .int vTa, .ref aFa, .ref aRu, .int vRc, .ref aRo, .ref aLa, .ref aVa]))], [(aCol, .inl (tt 0, 5, .inl vCol))], [(aRu, .inl (tt 5, 5, .inr (.inr (.inr (.inr (fun j => some (eRu j)))))))], [(aRo, .inl (tt 6, 5, .inr (.inr (.inr (.inr (fun j => some (eRo j)))))))], (wA eRo (tt 2) 5 512 vRo), [(aVa, .inl (tt 0, 4, .inl vVa))], [((eRu p1.toNatClampNeg), .inl (tt 0, 25, .inl (vRu p1.toNatClampNeg)))], (wAx eRu (tt 0) 5 25 vRu p1.toNatClampNeg)]).Perm (zW [[(aT, .inr (12, [.ref aCol, .int vTa, .ref aFa, .ref aRu, .int vRc, .ref aRo, .ref aLa, .ref aVa]))], [(aCol, .inl (tt 0, 5, .inl vCol))], [(aRo, .inl (tt 6, 5, .inr (.inr (.inr (.inr (fun j => some (eRo j)))))))], (wA eRo (tt 2) 5 512 vRo), [(aVa, .inl (tt 0, 4, .inl vVa))], [((eRu p1.toNatClampNeg), .inl (tt 0, 25, .inl (vRu p1.toNatClampNeg)))]] ++ zW [[(aRu, .inl (tt 5, 5, .inr (.inr (.inr (.inr (fun j => some (eRu j)))))))], (wAx eRu (tt 0) 5 25 vRu p1.toNatClampNeg)]) := zS_cut (is := [0, 1, 3, 4, 5, 6]) (js := [2, 7]) 8 rfl rfl rfl (by decide)
          refine s_backi (s_goV (As := [.ref (eRu p1.toNatClampNeg), .int ((5 : Int32) + ((5 : Int32) * x3))]) (rest := []) (ci := 12) ⟨hx, hb, hml, hown, hts⟩ hK hN hX hO hAA hp_32 hP hD hS hA (oX13_fits l G tt sa hlt H.size K 25 aT aCol aFa aRu aRo aLa aVa eRo (eRu p1.toNatClampNeg) vTa vRc vCol vRo vVa (vRu p1.toNatClampNeg) ((5 : Int32) + ((5 : Int32) * x3)) q32 hc_32) (cwV 2 hts gX13_gives_X13_fits rfl rfl rfl (by decide +kernel) ⟨Nat.le_of_ble_eq_true rfl, Nat.le_of_ble_eq_true rfl⟩) rfl rfl rfl hl.1 rfl (Nat.le_of_ble_eq_true rfl) dX13_gives_32 ⟨Nat.le_of_ble_eq_true rfl, Nat.le_of_ble_eq_true rfl⟩) hp_32 hP hD hS hA (fun r_32 u H locs hw hP hD hS => ?_)
          replace hw := hw.symm; subst hw
          have hP : va_P G vwCl (zW [[(aRu, .inl (tt 5, 5, .inr (.inr (.inr (.inr (fun j => some (eRu j)))))))], (wAx eRu (tt 0) 5 25 vRu p1.toNatClampNeg), [(aT, .inr (12, [.ref aCol, .int vTa, .ref aFa, .ref aRu, .int vRc, .ref aRo, .ref aLa, .ref aVa]))], [(aCol, .inl (tt 0, 5, .inl vCol))], [(aRo, .inl (tt 6, 5, .inr (.inr (.inr (.inr (fun j => some (eRo j)))))))], (wA eRo (tt 2) 5 512 vRo), [(aVa, .inl (tt 0, 4, .inl vVa))], [((eRu p1.toNatClampNeg), .inl (tt 0, 25, .inl (vRu p1.toNatClampNeg)))]]) H := hP
          have hD : va_D A (zW [[(aRu, .inl (tt 5, 5, .inr (.inr (.inr (.inr (fun j => some (eRu j)))))))], (wAx eRu (tt 0) 5 25 vRu p1.toNatClampNeg), [(aT, .inr (12, [.ref aCol, .int vTa, .ref aFa, .ref aRu, .int vRc, .ref aRo, .ref aLa, .ref aVa]))], [(aCol, .inl (tt 0, 5, .inl vCol))], [(aRo, .inl (tt 6, 5, .inr (.inr (.inr (.inr (fun j => some (eRo j)))))))], (wA eRo (tt 2) 5 512 vRo), [(aVa, .inl (tt 0, 4, .inl vVa))], [((eRu p1.toNatClampNeg), .inl (tt 0, 25, .inl (vRu p1.toNatClampNeg)))]]) := hD
          have hP := zP_perm (zS_stay (C := [[(aRu, .inl (tt 5, 5, .inr (.inr (.inr (.inr (fun j => some (eRu j)))))))], [(aT, .inr (12, [.ref aCol, .int vTa, .ref aFa, .ref aRu, .int vRc, .ref aRo, .ref aLa, .ref aVa]))], [(aCol, .inl (tt 0, 5, .inl vCol))], [(aRo, .inl (tt 6, 5, .inr (.inr (.inr (.inr (fun j => some (eRo j)))))))], (wA eRo (tt 2) 5 512 vRo), [(aVa, .inl (tt 0, 4, .inl vVa))]]) (is := [0, 2, 3, 4, 5, 6]) 8 rfl 7 1 rfl rfl (zlt_of h_10) rfl (by decide)) hP
          have hD := zD_perm (zS_stay (C := [[(aRu, .inl (tt 5, 5, .inr (.inr (.inr (.inr (fun j => some (eRu j)))))))], [(aT, .inr (12, [.ref aCol, .int vTa, .ref aFa, .ref aRu, .int vRc, .ref aRo, .ref aLa, .ref aVa]))], [(aCol, .inl (tt 0, 5, .inl vCol))], [(aRo, .inl (tt 6, 5, .inr (.inr (.inr (.inr (fun j => some (eRo j)))))))], (wA eRo (tt 2) 5 512 vRo), [(aVa, .inl (tt 0, 4, .inl vVa))]]) (is := [0, 2, 3, 4, 5, 6]) 8 rfl 7 1 rfl rfl (zlt_of h_10) rfl (by decide)) hD
          have hP : va_P G vwCl (zW [[(aRu, .inl (tt 5, 5, .inr (.inr (.inr (.inr (fun j => some (eRu j)))))))], [(aT, .inr (12, [.ref aCol, .int vTa, .ref aFa, .ref aRu, .int vRc, .ref aRo, .ref aLa, .ref aVa]))], [(aCol, .inl (tt 0, 5, .inl vCol))], [(aRo, .inl (tt 6, 5, .inr (.inr (.inr (.inr (fun j => some (eRo j)))))))], (wA eRo (tt 2) 5 512 vRo), [(aVa, .inl (tt 0, 4, .inl vVa))], (wA eRu (tt 0) 5 25 vRu)]) H := hP
          have hD : va_D A (zW [[(aRu, .inl (tt 5, 5, .inr (.inr (.inr (.inr (fun j => some (eRu j)))))))], [(aT, .inr (12, [.ref aCol, .int vTa, .ref aFa, .ref aRu, .int vRc, .ref aRo, .ref aLa, .ref aVa]))], [(aCol, .inl (tt 0, 5, .inl vCol))], [(aRo, .inl (tt 6, 5, .inr (.inr (.inr (.inr (fun j => some (eRo j)))))))], (wA eRo (tt 2) 5 512 vRo), [(aVa, .inl (tt 0, 4, .inl vVa))], (wA eRu (tt 0) 5 25 vRu)]) := hD
          refine lv_aload_n hx hb dX13_gives_35 rfl (lv_at hl 0 rfl) ?_
          obtain ⟨k_36, hk_36, hs_36⟩ := zS_one hP 1 rfl
          refine va_get (D := G) (ci := 12) (v := .ref aRu) (C := RX13) (T := TX13) (N := 8) hx hb hts hiX13 hown hK hP k_36 hk_36 rfl 3 (by decide) (hts (.fieldLink RX13 26 "LeapTablesLaw$Told" "rules" "[[I") (List.mem_of_getElem? (i := 1) rfl)) (fun _ h9 => h9) rfl dX13_gives_36 ?_
          refine lv_iload_n hx hb dX13_gives_39 rfl (lv_at hl 1 rfl) ?_
          obtain ⟨h_40, hF⟩ := z_in hF
          obtain ⟨k_40, hk_40, hs_40⟩ := zS_one hP 0 rfl
          refine zA_aald (f := eRu) hx hb hK hP k_40 5 hk_40 rfl h_40 dX13_gives_40 ?_
          refine lv_bipush (v := (9 : Int32)) hx hb dX13_gives_41 (by decide) ?_
          refine lv_iconst (v := (5 : Int32)) hx hb dX13_gives_43 (by decide) ?_
          refine lv_iload_n hx hb dX13_gives_44 rfl (lv_at hl 3 rfl) ?_
          refine lv_imul hx hb dX13_gives_45 ?_
          refine lv_iadd hx hb dX13_gives_46 ?_
          obtain ⟨h_47, hF⟩ := z_in hF
          obtain ⟨k_47, hk_47, hs_47⟩ := zS_fam hP 6 rfl (zlt_of h_10)
          refine va_iald hx hb hK hP k_47 0 hk_47 rfl h_47 dX13_gives_47 ?_
          refine lv_iconst (v := (1 : Int32)) hx hb dX13_gives_48 (by decide) ?_
          refine lv_icmp_ne (tgt := 56) hx hb dX13_gives_49 (by decide) (fun c_49 => ?_) (fun c_49 => ?_)
          · have hF := z_f c_49 hF
            refine lv_iconst (v := (0 : Int32)) hx hb dX13_gives_56 (by decide) ?_
            have hpj : (zW [[(aRu, .inl (tt 5, 5, .inr (.inr (.inr (.inr (fun j => some (eRu j)))))))], [(aT, .inr (12, [.ref aCol, .int vTa, .ref aFa, .ref aRu, .int vRc, .ref aRo, .ref aLa, .ref aVa]))], [(aCol, .inl (tt 0, 5, .inl vCol))], [(aRo, .inl (tt 6, 5, .inr (.inr (.inr (.inr (fun j => some (eRo j)))))))], (wA eRo (tt 2) 5 512 vRo), [(aVa, .inl (tt 0, 4, .inl vVa))], (wA eRu (tt 0) 5 25 vRu)]).Perm (zW [[(aT, .inr (12, [.ref aCol, .int vTa, .ref aFa, .ref aRu, .int vRc, .ref aRo, .ref aLa, .ref aVa]))], [(aCol, .inl (tt 0, 5, .inl vCol))], [(aRu, .inl (tt 5, 5, .inr (.inr (.inr (.inr (fun j => some (eRu j)))))))], (wA eRu (tt 0) 5 25 vRu), [(aRo, .inl (tt 6, 5, .inr (.inr (.inr (.inr (fun j => some (eRo j)))))))], (wA eRo (tt 2) 5 512 vRo), [(aVa, .inl (tt 0, 4, .inl vVa))]] ++ zW []) := zS_cut (is := [1, 2, 0, 6, 3, 4, 5]) (js := []) 7 rfl rfl rfl (by decide)
            exact hb57 _ _ _ _ _ _ hF (zS_subP hpj hP) (zS_subD hpj hD) hS (lv_sub hl [0, 1, 3] rfl)
          · have hF := z_t c_49 hF
            refine lv_iconst (v := (1 : Int32)) hx hb dX13_gives_52 (by decide) ?_
            refine lv_goto (tgt := 57) hx hb dX13_gives_53 (by decide) ?_
            have hpj : (zW [[(aRu, .inl (tt 5, 5, .inr (.inr (.inr (.inr (fun j => some (eRu j)))))))], [(aT, .inr (12, [.ref aCol, .int vTa, .ref aFa, .ref aRu, .int vRc, .ref aRo, .ref aLa, .ref aVa]))], [(aCol, .inl (tt 0, 5, .inl vCol))], [(aRo, .inl (tt 6, 5, .inr (.inr (.inr (.inr (fun j => some (eRo j)))))))], (wA eRo (tt 2) 5 512 vRo), [(aVa, .inl (tt 0, 4, .inl vVa))], (wA eRu (tt 0) 5 25 vRu)]).Perm (zW [[(aT, .inr (12, [.ref aCol, .int vTa, .ref aFa, .ref aRu, .int vRc, .ref aRo, .ref aLa, .ref aVa]))], [(aCol, .inl (tt 0, 5, .inl vCol))], [(aRu, .inl (tt 5, 5, .inr (.inr (.inr (.inr (fun j => some (eRu j)))))))], (wA eRu (tt 0) 5 25 vRu), [(aRo, .inl (tt 6, 5, .inr (.inr (.inr (.inr (fun j => some (eRo j)))))))], (wA eRo (tt 2) 5 512 vRo), [(aVa, .inl (tt 0, 4, .inl vVa))]] ++ zW []) := zS_cut (is := [1, 2, 0, 6, 3, 4, 5]) (js := []) 7 rfl rfl rfl (by decide)
            exact hb57 _ _ _ _ _ _ hF (zS_subP hpj hP) (zS_subD hpj hD) hS (lv_sub hl [0, 1, 3] rfl)
  obtain ⟨H, hHe⟩ : ∃ H : Heap, s.heap = H := ⟨_, rfl⟩
  have hS : va_S A s.heap H [] := by rw [← hHe]; exact va_S.rf
  rw [hHe] at hP ⊢
  unfold hX13_gives at hF
  refine lv_iconst (v := (1 : Int32)) hx hb dX13_gives_0 (by decide) ?_
  refine lv_istore_n (lv' := [(2, .int (1 : Int32)), (0, .ref aT), (1, .int p1)]) hx hb dX13_gives_1 rfl hl (by decide) rfl (fun ls hl => ?_)
  refine lv_iconst (v := (0 : Int32)) hx hb dX13_gives_2 (by decide) ?_
  refine lv_istore_n (lv' := [(3, .int (0 : Int32)), (2, .int (1 : Int32)), (0, .ref aT), (1, .int p1)]) hx hb dX13_gives_3 rfl hl (by decide) rfl (fun ls hl => ?_)
  exact hb4 K _ _ _ _ _ hF hP hD hS (lv_sub hl [2, 3, 1, 0] rfl)

set_option maxHeartbeats 8000000 in
set_option maxRecDepth 100000 in
theorem oX13_findsLayers (l : Launch) (G : va_G) (tt : Nat → ClassId) (sa : Nat → Nat) (hlt : l.stackTraces = false) (sz : Nat) (K : Nat) (aT : Nat) (aCol : Nat) (aFa : Nat) (aRu : Nat) (aRo : Nat) (aLa : Nat) (aVa : Nat) (eRu : Nat → Nat) (vTa : Int32) (vRc : Int32) (vRu : Nat → Nat → Int32) (vLa : Nat → Int32) (RR : Bool × (Nat → Int32)) (hF : hX13_findsLayers K vRc vRu vLa = some RR) : Met l yX13_findsLayers wsX13_findsLayers ({ frames := 1, cells := 0, slots := 0, locals := 60 } : Room) (zPreQ G (zTy tt) sa [.ref aT] sz (zW [[(aT, .inr (12, [.ref aCol, .int vTa, .ref aFa, .ref aRu, .int vRc, .ref aRo, .ref aLa, .ref aVa]))], [(aRu, .inl (tt 5, 5, .inr (.inr (.inr (.inr (fun j => some (eRu j)))))))], (wA eRu (tt 0) 5 25 vRu), [(aLa, .inl (tt 0, 5, .inl vLa))]])) (va_Qi (fun (r : Int32) (u : (Nat → Int32)) => r = bI RR.1 ∧ u = RR.2) (zAt G (zTy tt) (va_A (zW [[(aT, .inr (12, [.ref aCol, .int vTa, .ref aFa, .ref aRu, .int vRc, .ref aRo, .ref aLa, .ref aVa]))], [(aRu, .inl (tt 5, 5, .inr (.inr (.inr (.inr (fun j => some (eRu j)))))))], (wA eRu (tt 0) 5 25 vRu), [(aLa, .inl (tt 0, 5, .inl vLa))]]) sz) (fun u : (Nat → Int32) => zW [[(aT, .inr (12, [.ref aCol, .int vTa, .ref aFa, .ref aRu, .int vRc, .ref aRo, .ref aLa, .ref aVa]))], [(aRu, .inl (tt 5, 5, .inr (.inr (.inr (.inr (fun j => some (eRu j)))))))], (wA eRu (tt 0) 5 25 vRu), [(aLa, .inl (tt 0, 5, .inl u))]])) (va_A (zW [[(aT, .inr (12, [.ref aCol, .int vTa, .ref aFa, .ref aRu, .int vRc, .ref aRo, .ref aLa, .ref aVa]))], [(aRu, .inl (tt 5, 5, .inr (.inr (.inr (.inr (fun j => some (eRu j)))))))], (wA eRu (tt 0) 5 25 vRu), [(aLa, .inl (tt 0, 5, .inl vLa))]]) sz)) 0 0 (va_A (zW [[(aT, .inr (12, [.ref aCol, .int vTa, .ref aFa, .ref aRu, .int vRc, .ref aRo, .ref aLa, .ref aVa]))], [(aRu, .inl (tt 5, 5, .inr (.inr (.inr (.inr (fun j => some (eRu j)))))))], (wA eRu (tt 0) 5 25 vRu), [(aLa, .inl (tt 0, 5, .inl vLa))]]) sz) := by
  refine Met.ofW (cc := cX13_findsLayers) (maxL := 6) (ret := (some .boolean)) (by decide +kernel) rfl ?_
  intro p e s m args below meth c s₁ B hml hv
  obtain ⟨rfl, hsz, hP, hK, hD0, hN, hX, hO, hAA⟩ := hv
  have hx := B.exec
  have hb := B.bytes
  have hr := B.returns
  have hts := atoms_spec (ws := wsX13_findsLayers) B.pre
  have hown : s.vm.findClass RX13 = some m.cls := findClass_of_methodNamed B.named
  have hlocks := B.notSynchronized
  subst hsz
  have hD := hD0.self (sz := s.heap.size)
  generalize hAe : va_A (zW [[(aT, .inr (12, [.ref aCol, .int vTa, .ref aFa, .ref aRu, .int vRc, .ref aRo, .ref aLa, .ref aVa]))], [(aRu, .inl (tt 5, 5, .inr (.inr (.inr (.inr (fun j => some (eRu j)))))))], (wA eRu (tt 0) 5 25 vRu), [(aLa, .inl (tt 0, 5, .inl vLa))]]) s.heap.size = A at hD hX ⊢
  have hA : ∀ q : Nat, s.heap.size ≤ q → A q := fun q h => by rw [← hAe]; exact Or.inr h
  have hP : va_P G vwCl (zW [[(aT, .inr (12, [.ref aCol, .int vTa, .ref aFa, .ref aRu, .int vRc, .ref aRo, .ref aLa, .ref aVa]))], [(aRu, .inl (tt 5, 5, .inr (.inr (.inr (.inr (fun j => some (eRu j)))))))], (wA eRu (tt 0) 5 25 vRu), [(aLa, .inl (tt 0, 5, .inl vLa))]]) s.heap := hP
  have hiX13 : ∀ w ∈ wsX130, w ∈ wsX13_findsLayers := by decide +kernel
  have hl := lv_entry ([.ref aT]) (n := 6) (Nat.le_of_ble_eq_true rfl)
  rw [lg_entry_eq]
  generalize (lg_sl ([.ref aT]) ++ List.replicate (6 - (lg_sl ([.ref aT])).length) Slot.unset).toArray = ls at hl ⊢
  have hl : lv_has ls 6 [(0, .ref aT)] := hl
  have hb22 : ∀ (k22 : Nat), ∀ (x1 : Int32) (vLa : Nat → Int32)  (H : Heap) (locs : List Loc) (ls : Array Slot), hX13_findsLayers_22 K vRc vRu k22 x1 vLa = some RR → va_P G vwCl (zW [[(aT, .inr (12, [.ref aCol, .int vTa, .ref aFa, .ref aRu, .int vRc, .ref aRo, .ref aLa, .ref aVa]))], [(aRu, .inl (tt 5, 5, .inr (.inr (.inr (.inr (fun j => some (eRu j)))))))], (wA eRu (tt 0) 5 25 vRu), [(aLa, .inl (tt 0, 5, .inl vLa))]]) H → va_D A (zW [[(aT, .inr (12, [.ref aCol, .int vTa, .ref aFa, .ref aRu, .int vRc, .ref aRo, .ref aLa, .ref aVa]))], [(aRu, .inl (tt 5, 5, .inr (.inr (.inr (.inr (fun j => some (eRu j)))))))], (wA eRu (tt 0) 5 25 vRu), [(aLa, .inl (tt 0, 5, .inl vLa))]]) → va_S A s.heap H locs → lv_has ls 6 [(0, .ref aT), (1, .int x1)] → W p l e (headSpec wsX13_findsLayers ({ frames := 1, cells := 0, slots := 0, locals := 60 } : Room)).room s m ([.ref aT] : List Value).toArray below meth c H locs 0 0 (MQ below (va_Qi (fun (r : Int32) (u : (Nat → Int32)) => r = bI RR.1 ∧ u = RR.2) (zAt G (zTy tt) A (fun u : (Nat → Int32) => zW [[(aT, .inr (12, [.ref aCol, .int vTa, .ref aFa, .ref aRu, .int vRc, .ref aRo, .ref aLa, .ref aVa]))], [(aRu, .inl (tt 5, 5, .inr (.inr (.inr (.inr (fun j => some (eRu j)))))))], (wA eRu (tt 0) 5 25 vRu), [(aLa, .inl (tt 0, 5, .inl u))]])) A) ([.ref aT] : List Value).toArray s 0 0 A) (F0 m 22 ls []) := by
    intro k22
    induction k22 with
    | zero => intro x1 vLa H locs ls hF; rw [hX13_findsLayers_22] at hF; cases hF
    | succ k22 ih22 =>
      have hb32 : ∀ (k32 : Nat), ∀ (x1 : Int32) (x2 : Int32) (x3 : Int32) (vLa : Nat → Int32)  (H : Heap) (locs : List Loc) (ls : Array Slot), hX13_findsLayers_32 K vRc vRu (hX13_findsLayers_22 K vRc vRu k22) k32 x1 x2 x3 vLa = some RR → va_P G vwCl (zW [[(aT, .inr (12, [.ref aCol, .int vTa, .ref aFa, .ref aRu, .int vRc, .ref aRo, .ref aLa, .ref aVa]))], [(aRu, .inl (tt 5, 5, .inr (.inr (.inr (.inr (fun j => some (eRu j)))))))], (wA eRu (tt 0) 5 25 vRu), [(aLa, .inl (tt 0, 5, .inl vLa))]]) H → va_D A (zW [[(aT, .inr (12, [.ref aCol, .int vTa, .ref aFa, .ref aRu, .int vRc, .ref aRo, .ref aLa, .ref aVa]))], [(aRu, .inl (tt 5, 5, .inr (.inr (.inr (.inr (fun j => some (eRu j)))))))], (wA eRu (tt 0) 5 25 vRu), [(aLa, .inl (tt 0, 5, .inl vLa))]]) → va_S A s.heap H locs → lv_has ls 6 [(0, .ref aT), (1, .int x1), (2, .int x2), (3, .int x3)] → W p l e (headSpec wsX13_findsLayers ({ frames := 1, cells := 0, slots := 0, locals := 60 } : Room)).room s m ([.ref aT] : List Value).toArray below meth c H locs 0 0 (MQ below (va_Qi (fun (r : Int32) (u : (Nat → Int32)) => r = bI RR.1 ∧ u = RR.2) (zAt G (zTy tt) A (fun u : (Nat → Int32) => zW [[(aT, .inr (12, [.ref aCol, .int vTa, .ref aFa, .ref aRu, .int vRc, .ref aRo, .ref aLa, .ref aVa]))], [(aRu, .inl (tt 5, 5, .inr (.inr (.inr (.inr (fun j => some (eRu j)))))))], (wA eRu (tt 0) 5 25 vRu), [(aLa, .inl (tt 0, 5, .inl u))]])) A) ([.ref aT] : List Value).toArray s 0 0 A) (F0 m 32 ls []) := by
        intro k32
        induction k32 with
        | zero => intro x1 x2 x3 vLa H locs ls hF; rw [hX13_findsLayers_32] at hF; cases hF
        | succ k32 ih32 =>
          have hb43 : ∀ (k43 : Nat), ∀ (x1 : Int32) (x2 : Int32) (x3 : Int32) (x4 : Int32) (vLa : Nat → Int32)  (H : Heap) (locs : List Loc) (ls : Array Slot), hX13_findsLayers_43 K vRc vRu (hX13_findsLayers_22 K vRc vRu k22) (hX13_findsLayers_32 K vRc vRu (hX13_findsLayers_22 K vRc vRu k22) k32) k43 x1 x2 x3 x4 vLa = some RR → va_P G vwCl (zW [[(aT, .inr (12, [.ref aCol, .int vTa, .ref aFa, .ref aRu, .int vRc, .ref aRo, .ref aLa, .ref aVa]))], [(aRu, .inl (tt 5, 5, .inr (.inr (.inr (.inr (fun j => some (eRu j)))))))], (wA eRu (tt 0) 5 25 vRu), [(aLa, .inl (tt 0, 5, .inl vLa))]]) H → va_D A (zW [[(aT, .inr (12, [.ref aCol, .int vTa, .ref aFa, .ref aRu, .int vRc, .ref aRo, .ref aLa, .ref aVa]))], [(aRu, .inl (tt 5, 5, .inr (.inr (.inr (.inr (fun j => some (eRu j)))))))], (wA eRu (tt 0) 5 25 vRu), [(aLa, .inl (tt 0, 5, .inl vLa))]]) → va_S A s.heap H locs → lv_has ls 6 [(0, .ref aT), (1, .int x1), (2, .int x2), (3, .int x3), (4, .int x4)] → W p l e (headSpec wsX13_findsLayers ({ frames := 1, cells := 0, slots := 0, locals := 60 } : Room)).room s m ([.ref aT] : List Value).toArray below meth c H locs 0 0 (MQ below (va_Qi (fun (r : Int32) (u : (Nat → Int32)) => r = bI RR.1 ∧ u = RR.2) (zAt G (zTy tt) A (fun u : (Nat → Int32) => zW [[(aT, .inr (12, [.ref aCol, .int vTa, .ref aFa, .ref aRu, .int vRc, .ref aRo, .ref aLa, .ref aVa]))], [(aRu, .inl (tt 5, 5, .inr (.inr (.inr (.inr (fun j => some (eRu j)))))))], (wA eRu (tt 0) 5 25 vRu), [(aLa, .inl (tt 0, 5, .inl u))]])) A) ([.ref aT] : List Value).toArray s 0 0 A) (F0 m 43 ls []) := by
            intro k43
            induction k43 with
            | zero => intro x1 x2 x3 x4 vLa H locs ls hF; rw [hX13_findsLayers_43] at hF; cases hF
            | succ k43 ih43 =>
              have hb118 : ∀ (x1 : Int32) (x3 : Int32) (x4 : Int32) (x5 : Int32) (t0 : Int32) (vLa : Nat → Int32)  (H : Heap) (locs : List Loc) (ls : Array Slot), hX13_findsLayers_118 K vRc vRu (hX13_findsLayers_22 K vRc vRu k22) (hX13_findsLayers_32 K vRc vRu (hX13_findsLayers_22 K vRc vRu k22) k32) (hX13_findsLayers_43 K vRc vRu (hX13_findsLayers_22 K vRc vRu k22) (hX13_findsLayers_32 K vRc vRu (hX13_findsLayers_22 K vRc vRu k22) k32) k43) x1 x3 x4 x5 t0 vLa = some RR → va_P G vwCl (zW [[(aT, .inr (12, [.ref aCol, .int vTa, .ref aFa, .ref aRu, .int vRc, .ref aRo, .ref aLa, .ref aVa]))], [(aRu, .inl (tt 5, 5, .inr (.inr (.inr (.inr (fun j => some (eRu j)))))))], (wA eRu (tt 0) 5 25 vRu), [(aLa, .inl (tt 0, 5, .inl vLa))]]) H → va_D A (zW [[(aT, .inr (12, [.ref aCol, .int vTa, .ref aFa, .ref aRu, .int vRc, .ref aRo, .ref aLa, .ref aVa]))], [(aRu, .inl (tt 5, 5, .inr (.inr (.inr (.inr (fun j => some (eRu j)))))))], (wA eRu (tt 0) 5 25 vRu), [(aLa, .inl (tt 0, 5, .inl vLa))]]) → va_S A s.heap H locs → lv_has ls 6 [(0, .ref aT), (1, .int x1), (3, .int x3), (4, .int x4), (5, .int x5)] → W p l e (headSpec wsX13_findsLayers ({ frames := 1, cells := 0, slots := 0, locals := 60 } : Room)).room s m ([.ref aT] : List Value).toArray below meth c H locs 0 0 (MQ below (va_Qi (fun (r : Int32) (u : (Nat → Int32)) => r = bI RR.1 ∧ u = RR.2) (zAt G (zTy tt) A (fun u : (Nat → Int32) => zW [[(aT, .inr (12, [.ref aCol, .int vTa, .ref aFa, .ref aRu, .int vRc, .ref aRo, .ref aLa, .ref aVa]))], [(aRu, .inl (tt 5, 5, .inr (.inr (.inr (.inr (fun j => some (eRu j)))))))], (wA eRu (tt 0) 5 25 vRu), [(aLa, .inl (tt 0, 5, .inl u))]])) A) ([.ref aT] : List Value).toArray s 0 0 A) (F0 m 118 ls [.int t0]) := by
                intro x1 x3 x4 x5 t0 vLa H locs ls hF hP hD hS hl
                unfold hX13_findsLayers_118 at hF
                refine lv_istore_n (lv' := [(2, .int t0), (0, .ref aT), (1, .int x1), (3, .int x3), (4, .int x4), (5, .int x5)]) hx hb dX13_findsLayers_118 rfl hl (by decide) rfl (fun ls hl => ?_)
                refine lv_aload_n hx hb dX13_findsLayers_119 rfl (lv_at hl 1 rfl) ?_
                obtain ⟨k_120, hk_120, hs_120⟩ := zS_one hP 0 rfl
                refine va_get (D := G) (ci := 12) (v := .ref aLa) (C := RX13) (T := TX13) (N := 8) hx hb hts hiX13 hown hK hP k_120 hk_120 rfl 6 (by decide) (hts (.fieldLink RX13 32 "LeapTablesLaw$Told" "layers" "[I") (List.mem_of_getElem? (i := 1) rfl)) (fun _ h9 => h9) rfl dX13_findsLayers_120 ?_
                refine lv_aload_n hx hb dX13_findsLayers_123 rfl (lv_at hl 1 rfl) ?_
                obtain ⟨k_124, hk_124, hs_124⟩ := zS_one hP 0 rfl
                refine va_get (D := G) (ci := 12) (v := .ref aRu) (C := RX13) (T := TX13) (N := 8) hx hb hts hiX13 hown hK hP k_124 hk_124 rfl 3 (by decide) (hts (.fieldLink RX13 26 "LeapTablesLaw$Told" "rules" "[[I") (List.mem_of_getElem? (i := 3) rfl)) (fun _ h9 => h9) rfl dX13_findsLayers_124 ?_
                refine lv_iload_n hx hb dX13_findsLayers_127 rfl (lv_at hl 3 rfl) ?_
                obtain ⟨h_128, hF⟩ := z_in hF
                obtain ⟨k_128, hk_128, hs_128⟩ := zS_one hP 1 rfl
                refine zA_aald (f := eRu) hx hb hK hP k_128 5 hk_128 rfl h_128 dX13_findsLayers_128 ?_
                refine lv_iconst (v := (0 : Int32)) hx hb dX13_findsLayers_129 (by decide) ?_
                obtain ⟨h_130, hF⟩ := z_in hF
                obtain ⟨k_130, hk_130, hs_130⟩ := zS_fam hP 2 rfl (zlt_of h_128)
                refine va_iald hx hb hK hP k_130 0 hk_130 rfl h_130 dX13_findsLayers_130 ?_
                refine lv_aload_n hx hb dX13_findsLayers_131 rfl (lv_at hl 1 rfl) ?_
                obtain ⟨k_132, hk_132, hs_132⟩ := zS_one hP 0 rfl
                refine va_get (D := G) (ci := 12) (v := .ref aLa) (C := RX13) (T := TX13) (N := 8) hx hb hts hiX13 hown hK hP k_132 hk_132 rfl 6 (by decide) (hts (.fieldLink RX13 32 "LeapTablesLaw$Told" "layers" "[I") (List.mem_of_getElem? (i := 1) rfl)) (fun _ h9 => h9) rfl dX13_findsLayers_132 ?_
                refine lv_aload_n hx hb dX13_findsLayers_135 rfl (lv_at hl 1 rfl) ?_
                obtain ⟨k_136, hk_136, hs_136⟩ := zS_one hP 0 rfl
                refine va_get (D := G) (ci := 12) (v := .ref aRu) (C := RX13) (T := TX13) (N := 8) hx hb hts hiX13 hown hK hP k_136 hk_136 rfl 3 (by decide) (hts (.fieldLink RX13 26 "LeapTablesLaw$Told" "rules" "[[I") (List.mem_of_getElem? (i := 3) rfl)) (fun _ h9 => h9) rfl dX13_findsLayers_136 ?_
                refine lv_iload_n hx hb dX13_findsLayers_139 rfl (lv_at hl 3 rfl) ?_
                obtain ⟨h_140, hF⟩ := z_in hF
                obtain ⟨k_140, hk_140, hs_140⟩ := zS_one hP 1 rfl
                refine zA_aald (f := eRu) hx hb hK hP k_140 5 hk_140 rfl h_140 dX13_findsLayers_140 ?_
                refine lv_iconst (v := (0 : Int32)) hx hb dX13_findsLayers_141 (by decide) ?_
                obtain ⟨h_142, hF⟩ := z_in hF
                obtain ⟨k_142, hk_142, hs_142⟩ := zS_fam hP 2 rfl (zlt_of h_128)
                refine va_iald hx hb hK hP k_142 0 hk_142 rfl h_142 dX13_findsLayers_142 ?_
                obtain ⟨h_143, hF⟩ := z_in hF
                obtain ⟨k_143, hk_143, hs_143⟩ := zS_one hP 3 rfl
                refine va_iald hx hb hK hP k_143 0 hk_143 rfl h_143 dX13_findsLayers_143 ?_
                refine lv_iload hx hb dX13_findsLayers_144 (lv_at hl 5 rfl) ?_
                refine va_mmax hx hb (hml.trans hl.1.symm) hown (hts (.methodLink RX13 59 Lib.Math.max.name) (List.mem_of_getElem? (i := 4) rfl)) (hts (.static Lib.Math.max.name) (List.mem_of_getElem? (i := 5) rfl)) (hts (.initialized "java/lang/Math") (List.mem_of_getElem? (i := 6) rfl)) (hts (.code Lib.Math.max.name Lib.Math.max.code 2 (some .int)) (List.mem_of_getElem? (i := 7) rfl)) (Nat.le_of_ble_eq_true rfl) (Nat.le_of_ble_eq_true rfl) (Nat.zero_le _) (Nat.zero_le _) dX13_findsLayers_146 ?_
                obtain ⟨h_149, hF⟩ := z_in hF
                obtain ⟨k_149, hk_149, hs_149⟩ := zS_one hP 3 rfl
                refine va_iast hx hb hK hP hD hS k_149 0 hk_149 rfl h_149 dX13_findsLayers_149 (fun H locs hP hD hS => ?_)
                rw [hs_149] at hP hD
                have hP : va_P G vwCl (zW [[(aT, .inr (12, [.ref aCol, .int vTa, .ref aFa, .ref aRu, .int vRc, .ref aRo, .ref aLa, .ref aVa]))], [(aRu, .inl (tt 5, 5, .inr (.inr (.inr (.inr (fun j => some (eRu j)))))))], (wA eRu (tt 0) 5 25 vRu), [(aLa, .inl (tt 0, 5, .inl (upd vLa ((vRu x3.toNatClampNeg) (0 : Int32).toNatClampNeg).toNatClampNeg (if (vLa ((vRu x3.toNatClampNeg) (0 : Int32).toNatClampNeg).toNatClampNeg) < x5 then x5 else (vLa ((vRu x3.toNatClampNeg) (0 : Int32).toNatClampNeg).toNatClampNeg)))))]]) H := hP
                have hD : va_D A (zW [[(aT, .inr (12, [.ref aCol, .int vTa, .ref aFa, .ref aRu, .int vRc, .ref aRo, .ref aLa, .ref aVa]))], [(aRu, .inl (tt 5, 5, .inr (.inr (.inr (.inr (fun j => some (eRu j)))))))], (wA eRu (tt 0) 5 25 vRu), [(aLa, .inl (tt 0, 5, .inl (upd vLa ((vRu x3.toNatClampNeg) (0 : Int32).toNatClampNeg).toNatClampNeg (if (vLa ((vRu x3.toNatClampNeg) (0 : Int32).toNatClampNeg).toNatClampNeg) < x5 then x5 else (vLa ((vRu x3.toNatClampNeg) (0 : Int32).toNatClampNeg).toNatClampNeg)))))]]) := hD
                refine lv_iinc (v := (x4 + (1 : Int32))) (lv' := [(4, .int (x4 + (1 : Int32))), (2, .int t0), (0, .ref aT), (1, .int x1), (3, .int x3), (5, .int x5)]) hx hb dX13_findsLayers_150 hl (k := 4) rfl rfl (by decide) rfl (fun ls hl => ?_)
                refine lv_goto (tgt := 43) hx hb dX13_findsLayers_153 (by decide) ?_
                exact ih43 _ _ _ _ _ _ _ _ hF hP hD hS (lv_sub hl [2, 3, 1, 4, 0] rfl)
              have hb117 : ∀ (x1 : Int32) (x3 : Int32) (x4 : Int32) (x5 : Int32) (vLa : Nat → Int32)  (H : Heap) (locs : List Loc) (ls : Array Slot), hX13_findsLayers_117 K vRc vRu (hX13_findsLayers_22 K vRc vRu k22) (hX13_findsLayers_32 K vRc vRu (hX13_findsLayers_22 K vRc vRu k22) k32) (hX13_findsLayers_43 K vRc vRu (hX13_findsLayers_22 K vRc vRu k22) (hX13_findsLayers_32 K vRc vRu (hX13_findsLayers_22 K vRc vRu k22) k32) k43) x1 x3 x4 x5 vLa = some RR → va_P G vwCl (zW [[(aT, .inr (12, [.ref aCol, .int vTa, .ref aFa, .ref aRu, .int vRc, .ref aRo, .ref aLa, .ref aVa]))], [(aRu, .inl (tt 5, 5, .inr (.inr (.inr (.inr (fun j => some (eRu j)))))))], (wA eRu (tt 0) 5 25 vRu), [(aLa, .inl (tt 0, 5, .inl vLa))]]) H → va_D A (zW [[(aT, .inr (12, [.ref aCol, .int vTa, .ref aFa, .ref aRu, .int vRc, .ref aRo, .ref aLa, .ref aVa]))], [(aRu, .inl (tt 5, 5, .inr (.inr (.inr (.inr (fun j => some (eRu j)))))))], (wA eRu (tt 0) 5 25 vRu), [(aLa, .inl (tt 0, 5, .inl vLa))]]) → va_S A s.heap H locs → lv_has ls 6 [(0, .ref aT), (1, .int x1), (3, .int x3), (4, .int x4), (5, .int x5)] → W p l e (headSpec wsX13_findsLayers ({ frames := 1, cells := 0, slots := 0, locals := 60 } : Room)).room s m ([.ref aT] : List Value).toArray below meth c H locs 0 0 (MQ below (va_Qi (fun (r : Int32) (u : (Nat → Int32)) => r = bI RR.1 ∧ u = RR.2) (zAt G (zTy tt) A (fun u : (Nat → Int32) => zW [[(aT, .inr (12, [.ref aCol, .int vTa, .ref aFa, .ref aRu, .int vRc, .ref aRo, .ref aLa, .ref aVa]))], [(aRu, .inl (tt 5, 5, .inr (.inr (.inr (.inr (fun j => some (eRu j)))))))], (wA eRu (tt 0) 5 25 vRu), [(aLa, .inl (tt 0, 5, .inl u))]])) A) ([.ref aT] : List Value).toArray s 0 0 A) (F0 m 117 ls []) := by
                intro x1 x3 x4 x5 vLa H locs ls hF hP hD hS hl
                unfold hX13_findsLayers_117 at hF
                refine lv_iconst (v := (0 : Int32)) hx hb dX13_findsLayers_117 (by decide) ?_
                exact hb118 _ _ _ _ _ _ _ _ _ hF hP hD hS (lv_sub hl [0, 1, 2, 3, 4] rfl)
              intro x1 x2 x3 x4 vLa H locs ls hF hP hD hS hl
              rw [hX13_findsLayers_43] at hF
              refine lv_iload hx hb dX13_findsLayers_43 (lv_at hl 4 rfl) ?_
              refine lv_aload_n hx hb dX13_findsLayers_45 rfl (lv_at hl 0 rfl) ?_
              obtain ⟨k_46, hk_46, hs_46⟩ := zS_one hP 0 rfl
              refine va_get (D := G) (ci := 12) (v := .ref aRu) (C := RX13) (T := TX13) (N := 8) hx hb hts hiX13 hown hK hP k_46 hk_46 rfl 3 (by decide) (hts (.fieldLink RX13 26 "LeapTablesLaw$Told" "rules" "[[I") (List.mem_of_getElem? (i := 3) rfl)) (fun _ h9 => h9) rfl dX13_findsLayers_46 ?_
              refine lv_iload_n hx hb dX13_findsLayers_49 rfl (lv_at hl 3 rfl) ?_
              obtain ⟨h_50, hF⟩ := z_in hF
              obtain ⟨k_50, hk_50, hs_50⟩ := zS_one hP 1 rfl
              refine zA_aald (f := eRu) hx hb hK hP k_50 5 hk_50 rfl h_50 dX13_findsLayers_50 ?_
              refine lv_iconst (v := (4 : Int32)) hx hb dX13_findsLayers_51 (by decide) ?_
              obtain ⟨h_52, hF⟩ := z_in hF
              obtain ⟨k_52, hk_52, hs_52⟩ := zS_fam hP 2 rfl (zlt_of h_50)
              refine va_iald hx hb hK hP k_52 0 hk_52 rfl h_52 dX13_findsLayers_52 ?_
              refine lv_icmp_ge (tgt := 156) hx hb dX13_findsLayers_53 (by decide) (fun c_53 => ?_) (fun c_53 => ?_)
              · have hF := z_t c_53 hF
                refine lv_iinc (v := (x3 + (1 : Int32))) (lv' := [(3, .int (x3 + (1 : Int32))), (0, .ref aT), (1, .int x1), (2, .int x2), (4, .int x4)]) hx hb dX13_findsLayers_156 hl (k := 3) rfl rfl (by decide) rfl (fun ls hl => ?_)
                refine lv_goto (tgt := 32) hx hb dX13_findsLayers_159 (by decide) ?_
                exact ih32 _ _ _ _ _ _ _ hF hP hD hS (lv_sub hl [1, 2, 3, 0] rfl)
              · have hF := z_f c_53 hF
                refine lv_aload_n hx hb dX13_findsLayers_56 rfl (lv_at hl 0 rfl) ?_
                obtain ⟨k_57, hk_57, hs_57⟩ := zS_one hP 0 rfl
                refine va_get (D := G) (ci := 12) (v := .ref aLa) (C := RX13) (T := TX13) (N := 8) hx hb hts hiX13 hown hK hP k_57 hk_57 rfl 6 (by decide) (hts (.fieldLink RX13 32 "LeapTablesLaw$Told" "layers" "[I") (List.mem_of_getElem? (i := 1) rfl)) (fun _ h9 => h9) rfl dX13_findsLayers_57 ?_
                refine lv_aload_n hx hb dX13_findsLayers_60 rfl (lv_at hl 0 rfl) ?_
                obtain ⟨k_61, hk_61, hs_61⟩ := zS_one hP 0 rfl
                refine va_get (D := G) (ci := 12) (v := .ref aRu) (C := RX13) (T := TX13) (N := 8) hx hb hts hiX13 hown hK hP k_61 hk_61 rfl 3 (by decide) (hts (.fieldLink RX13 26 "LeapTablesLaw$Told" "rules" "[[I") (List.mem_of_getElem? (i := 3) rfl)) (fun _ h9 => h9) rfl dX13_findsLayers_61 ?_
                refine lv_iload_n hx hb dX13_findsLayers_64 rfl (lv_at hl 3 rfl) ?_
                obtain ⟨h_65, hF⟩ := z_in hF
                obtain ⟨k_65, hk_65, hs_65⟩ := zS_one hP 1 rfl
                refine zA_aald (f := eRu) hx hb hK hP k_65 5 hk_65 rfl h_65 dX13_findsLayers_65 ?_
                refine lv_iconst (v := (5 : Int32)) hx hb dX13_findsLayers_66 (by decide) ?_
                refine lv_iconst (v := (5 : Int32)) hx hb dX13_findsLayers_67 (by decide) ?_
                refine lv_iload hx hb dX13_findsLayers_68 (lv_at hl 4 rfl) ?_
                refine lv_imul hx hb dX13_findsLayers_70 ?_
                refine lv_iadd hx hb dX13_findsLayers_71 ?_
                obtain ⟨h_72, hF⟩ := z_in hF
                obtain ⟨k_72, hk_72, hs_72⟩ := zS_fam hP 2 rfl (zlt_of h_50)
                refine va_iald hx hb hK hP k_72 0 hk_72 rfl h_72 dX13_findsLayers_72 ?_
                obtain ⟨h_73, hF⟩ := z_in hF
                obtain ⟨k_73, hk_73, hs_73⟩ := zS_one hP 3 rfl
                refine va_iald hx hb hK hP k_73 0 hk_73 rfl h_73 dX13_findsLayers_73 ?_
                refine lv_aload_n hx hb dX13_findsLayers_74 rfl (lv_at hl 0 rfl) ?_
                obtain ⟨k_75, hk_75, hs_75⟩ := zS_one hP 0 rfl
                refine va_get (D := G) (ci := 12) (v := .ref aRu) (C := RX13) (T := TX13) (N := 8) hx hb hts hiX13 hown hK hP k_75 hk_75 rfl 3 (by decide) (hts (.fieldLink RX13 26 "LeapTablesLaw$Told" "rules" "[[I") (List.mem_of_getElem? (i := 3) rfl)) (fun _ h9 => h9) rfl dX13_findsLayers_75 ?_
                refine lv_iload_n hx hb dX13_findsLayers_78 rfl (lv_at hl 3 rfl) ?_
                obtain ⟨h_79, hF⟩ := z_in hF
                obtain ⟨k_79, hk_79, hs_79⟩ := zS_one hP 1 rfl
                refine zA_aald (f := eRu) hx hb hK hP k_79 5 hk_79 rfl h_79 dX13_findsLayers_79 ?_
                refine lv_bipush (v := (9 : Int32)) hx hb dX13_findsLayers_80 (by decide) ?_
                refine lv_iconst (v := (5 : Int32)) hx hb dX13_findsLayers_82 (by decide) ?_
                refine lv_iload hx hb dX13_findsLayers_83 (lv_at hl 4 rfl) ?_
                refine lv_imul hx hb dX13_findsLayers_85 ?_
                refine lv_iadd hx hb dX13_findsLayers_86 ?_
                obtain ⟨h_87, hF⟩ := z_in hF
                obtain ⟨k_87, hk_87, hs_87⟩ := zS_fam hP 2 rfl (zlt_of h_50)
                refine va_iald hx hb hK hP k_87 0 hk_87 rfl h_87 dX13_findsLayers_87 ?_
                refine lv_iadd hx hb dX13_findsLayers_88 ?_
                refine lv_istore (lv' := [(5, .int ((vLa ((vRu x3.toNatClampNeg) ((5 : Int32) + ((5 : Int32) * x4)).toNatClampNeg).toNatClampNeg) + ((vRu x3.toNatClampNeg) ((9 : Int32) + ((5 : Int32) * x4)).toNatClampNeg))), (0, .ref aT), (1, .int x1), (2, .int x2), (3, .int x3), (4, .int x4)]) hx hb dX13_findsLayers_89 hl (by decide) rfl (fun ls hl => ?_)
                refine lv_iload_n hx hb dX13_findsLayers_91 rfl (lv_at hl 3 rfl) ?_
                refine lv_if_eq (tgt := 117) hx hb dX13_findsLayers_92 (by decide) (fun c_92 => ?_) (fun c_92 => ?_)
                · have hF := z_t c_92 hF
                  exact hb117 _ _ _ _ _ _ _ _ hF hP hD hS (lv_sub hl [1, 2, 4, 5, 0] rfl)
                · have hF := z_f c_92 hF
                  refine lv_aload_n hx hb dX13_findsLayers_95 rfl (lv_at hl 1 rfl) ?_
                  obtain ⟨k_96, hk_96, hs_96⟩ := zS_one hP 0 rfl
                  refine va_get (D := G) (ci := 12) (v := .ref aLa) (C := RX13) (T := TX13) (N := 8) hx hb hts hiX13 hown hK hP k_96 hk_96 rfl 6 (by decide) (hts (.fieldLink RX13 32 "LeapTablesLaw$Told" "layers" "[I") (List.mem_of_getElem? (i := 1) rfl)) (fun _ h9 => h9) rfl dX13_findsLayers_96 ?_
                  refine lv_aload_n hx hb dX13_findsLayers_99 rfl (lv_at hl 1 rfl) ?_
                  obtain ⟨k_100, hk_100, hs_100⟩ := zS_one hP 0 rfl
                  refine va_get (D := G) (ci := 12) (v := .ref aRu) (C := RX13) (T := TX13) (N := 8) hx hb hts hiX13 hown hK hP k_100 hk_100 rfl 3 (by decide) (hts (.fieldLink RX13 26 "LeapTablesLaw$Told" "rules" "[[I") (List.mem_of_getElem? (i := 3) rfl)) (fun _ h9 => h9) rfl dX13_findsLayers_100 ?_
                  refine lv_iload_n hx hb dX13_findsLayers_103 rfl (lv_at hl 4 rfl) ?_
                  obtain ⟨h_104, hF⟩ := z_in hF
                  obtain ⟨k_104, hk_104, hs_104⟩ := zS_one hP 1 rfl
                  refine zA_aald (f := eRu) hx hb hK hP k_104 5 hk_104 rfl h_104 dX13_findsLayers_104 ?_
                  refine lv_iconst (v := (0 : Int32)) hx hb dX13_findsLayers_105 (by decide) ?_
                  obtain ⟨h_106, hF⟩ := z_in hF
                  obtain ⟨k_106, hk_106, hs_106⟩ := zS_fam hP 2 rfl (zlt_of h_50)
                  refine va_iald hx hb hK hP k_106 0 hk_106 rfl h_106 dX13_findsLayers_106 ?_
                  obtain ⟨h_107, hF⟩ := z_in hF
                  obtain ⟨k_107, hk_107, hs_107⟩ := zS_one hP 3 rfl
                  refine va_iald hx hb hK hP k_107 0 hk_107 rfl h_107 dX13_findsLayers_107 ?_
                  refine lv_iload hx hb dX13_findsLayers_108 (lv_at hl 0 rfl) ?_
                  refine lv_icmp_lt (tgt := 117) hx hb dX13_findsLayers_110 (by decide) (fun c_110 => ?_) (fun c_110 => ?_)
                  · have hF := z_t c_110 hF
                    exact hb117 _ _ _ _ _ _ _ _ hF hP hD hS (lv_sub hl [1, 2, 4, 5, 0] rfl)
                  · have hF := z_f c_110 hF
                    refine lv_iconst (v := (1 : Int32)) hx hb dX13_findsLayers_113 (by decide) ?_
                    refine lv_goto (tgt := 118) hx hb dX13_findsLayers_114 (by decide) ?_
                    exact hb118 _ _ _ _ _ _ _ _ _ hF hP hD hS (lv_sub hl [1, 2, 4, 5, 0] rfl)
          intro x1 x2 x3 vLa H locs ls hF hP hD hS hl
          rw [hX13_findsLayers_32] at hF
          refine lv_iload_n hx hb dX13_findsLayers_32 rfl (lv_at hl 3 rfl) ?_
          refine lv_aload_n hx hb dX13_findsLayers_33 rfl (lv_at hl 0 rfl) ?_
          obtain ⟨k_34, hk_34, hs_34⟩ := zS_one hP 0 rfl
          refine va_get (D := G) (ci := 12) (v := .int vRc) (C := RX13) (T := TX13) (N := 8) hx hb hts hiX13 hown hK hP k_34 hk_34 rfl 4 (by decide) (hts (.fieldLink RX13 56 "LeapTablesLaw$Told" "ruleCount" "I") (List.mem_of_getElem? (i := 2) rfl)) (fun _ h9 => h9) rfl dX13_findsLayers_34 ?_
          refine lv_icmp_ge (tgt := 162) hx hb dX13_findsLayers_37 (by decide) (fun c_37 => ?_) (fun c_37 => ?_)
          · have hF := z_t c_37 hF
            refine lv_iload_n hx hb dX13_findsLayers_162 rfl (lv_at hl 2 rfl) ?_
            refine lv_if_eq (tgt := 168) hx hb dX13_findsLayers_163 (by decide) (fun c_163 => ?_) (fun c_163 => ?_)
            · have hF := z_t c_163 hF
              refine lv_iinc (v := (x1 + (1 : Int32))) (lv' := [(1, .int (x1 + (1 : Int32))), (0, .ref aT), (2, .int x2), (3, .int x3)]) hx hb dX13_findsLayers_168 hl (k := 1) rfl rfl (by decide) rfl (fun ls hl => ?_)
              refine lv_goto (tgt := 22) hx hb dX13_findsLayers_171 (by decide) ?_
              exact ih22 _ _ _ _ _ hF hP hD hS (lv_sub hl [1, 0] rfl)
            · have hF := z_f c_163 hF
              refine lv_iconst (v := (1 : Int32)) hx hb dX13_findsLayers_166 (by decide) ?_
              have hp9 : (zW [[(aT, .inr (12, [.ref aCol, .int vTa, .ref aFa, .ref aRu, .int vRc, .ref aRo, .ref aLa, .ref aVa]))], [(aRu, .inl (tt 5, 5, .inr (.inr (.inr (.inr (fun j => some (eRu j)))))))], (wA eRu (tt 0) 5 25 vRu), [(aLa, .inl (tt 0, 5, .inl vLa))]]).Perm (zW [[(aT, .inr (12, [.ref aCol, .int vTa, .ref aFa, .ref aRu, .int vRc, .ref aRo, .ref aLa, .ref aVa]))], [(aRu, .inl (tt 5, 5, .inr (.inr (.inr (.inr (fun j => some (eRu j)))))))], (wA eRu (tt 0) 5 25 vRu), [(aLa, .inl (tt 0, 5, .inl vLa))]] ++ zW []) := zS_cut (is := [0, 1, 2, 3]) (js := []) 4 rfl rfl rfl (by decide)
              have hP9 : va_P G vwCl (zW [[(aT, .inr (12, [.ref aCol, .int vTa, .ref aFa, .ref aRu, .int vRc, .ref aRo, .ref aLa, .ref aVa]))], [(aRu, .inl (tt 5, 5, .inr (.inr (.inr (.inr (fun j => some (eRu j)))))))], (wA eRu (tt 0) 5 25 vRu), [(aLa, .inl (tt 0, 5, .inl vLa))]]) H := zS_subP hp9 hP
              have hD9 : va_D A (zW [[(aT, .inr (12, [.ref aCol, .int vTa, .ref aFa, .ref aRu, .int vRc, .ref aRo, .ref aLa, .ref aVa]))], [(aRu, .inl (tt 5, 5, .inr (.inr (.inr (.inr (fun j => some (eRu j)))))))], (wA eRu (tt 0) 5 25 vRu), [(aLa, .inl (tt 0, 5, .inl vLa))]]) := zS_subD hp9 hD
              have hR := Option.some.inj hF
              exact W.zret (v := (1 : Int32)) hx hb hr rfl (fun t ht hW => ⟨⟨(1 : Int32), (vLa), rfl, (by subst hR; exact ⟨rfl, rfl⟩), by rw [ht]; exact hP9, va_K.moved hW.alike hK, hD9⟩, hS.F ht⟩) hS.2.2 dX13_findsLayers_167
          · have hF := z_f c_37 hF
            refine lv_iconst (v := (0 : Int32)) hx hb dX13_findsLayers_40 (by decide) ?_
            refine lv_istore (lv' := [(4, .int (0 : Int32)), (0, .ref aT), (1, .int x1), (2, .int x2), (3, .int x3)]) hx hb dX13_findsLayers_41 hl (by decide) rfl (fun ls hl => ?_)
            exact hb43 K _ _ _ _ _ _ _ _ hF hP hD hS (lv_sub hl [1, 2, 3, 4, 0] rfl)
      intro x1 vLa H locs ls hF hP hD hS hl
      rw [hX13_findsLayers_22] at hF
      refine lv_iload_n hx hb dX13_findsLayers_22 rfl (lv_at hl 1 rfl) ?_
      refine lv_bipush (v := (40 : Int32)) hx hb dX13_findsLayers_23 (by decide) ?_
      refine lv_icmp_ge (tgt := 174) hx hb dX13_findsLayers_25 (by decide) (fun c_25 => ?_) (fun c_25 => ?_)
      · have hF := z_t c_25 hF
        refine lv_iconst (v := (0 : Int32)) hx hb dX13_findsLayers_174 (by decide) ?_
        have hp9 : (zW [[(aT, .inr (12, [.ref aCol, .int vTa, .ref aFa, .ref aRu, .int vRc, .ref aRo, .ref aLa, .ref aVa]))], [(aRu, .inl (tt 5, 5, .inr (.inr (.inr (.inr (fun j => some (eRu j)))))))], (wA eRu (tt 0) 5 25 vRu), [(aLa, .inl (tt 0, 5, .inl vLa))]]).Perm (zW [[(aT, .inr (12, [.ref aCol, .int vTa, .ref aFa, .ref aRu, .int vRc, .ref aRo, .ref aLa, .ref aVa]))], [(aRu, .inl (tt 5, 5, .inr (.inr (.inr (.inr (fun j => some (eRu j)))))))], (wA eRu (tt 0) 5 25 vRu), [(aLa, .inl (tt 0, 5, .inl vLa))]] ++ zW []) := zS_cut (is := [0, 1, 2, 3]) (js := []) 4 rfl rfl rfl (by decide)
        have hP9 : va_P G vwCl (zW [[(aT, .inr (12, [.ref aCol, .int vTa, .ref aFa, .ref aRu, .int vRc, .ref aRo, .ref aLa, .ref aVa]))], [(aRu, .inl (tt 5, 5, .inr (.inr (.inr (.inr (fun j => some (eRu j)))))))], (wA eRu (tt 0) 5 25 vRu), [(aLa, .inl (tt 0, 5, .inl vLa))]]) H := zS_subP hp9 hP
        have hD9 : va_D A (zW [[(aT, .inr (12, [.ref aCol, .int vTa, .ref aFa, .ref aRu, .int vRc, .ref aRo, .ref aLa, .ref aVa]))], [(aRu, .inl (tt 5, 5, .inr (.inr (.inr (.inr (fun j => some (eRu j)))))))], (wA eRu (tt 0) 5 25 vRu), [(aLa, .inl (tt 0, 5, .inl vLa))]]) := zS_subD hp9 hD
        have hR := Option.some.inj hF
        exact W.zret (v := (0 : Int32)) hx hb hr rfl (fun t ht hW => ⟨⟨(0 : Int32), (vLa), rfl, (by subst hR; exact ⟨rfl, rfl⟩), by rw [ht]; exact hP9, va_K.moved hW.alike hK, hD9⟩, hS.F ht⟩) hS.2.2 dX13_findsLayers_175
      · have hF := z_f c_25 hF
        refine lv_iconst (v := (1 : Int32)) hx hb dX13_findsLayers_28 (by decide) ?_
        refine lv_istore_n (lv' := [(2, .int (1 : Int32)), (0, .ref aT), (1, .int x1)]) hx hb dX13_findsLayers_29 rfl hl (by decide) rfl (fun ls hl => ?_)
        refine lv_iconst (v := (0 : Int32)) hx hb dX13_findsLayers_30 (by decide) ?_
        refine lv_istore_n (lv' := [(3, .int (0 : Int32)), (2, .int (1 : Int32)), (0, .ref aT), (1, .int x1)]) hx hb dX13_findsLayers_31 rfl hl (by decide) rfl (fun ls hl => ?_)
        exact hb32 K _ _ _ _ _ _ _ hF hP hD hS (lv_sub hl [2, 3, 1, 0] rfl)
  have hb2 : ∀ (k2 : Nat), ∀ (x1 : Int32) (vLa : Nat → Int32)  (H : Heap) (locs : List Loc) (ls : Array Slot), hX13_findsLayers_2 K vRc vRu k2 x1 vLa = some RR → va_P G vwCl (zW [[(aT, .inr (12, [.ref aCol, .int vTa, .ref aFa, .ref aRu, .int vRc, .ref aRo, .ref aLa, .ref aVa]))], [(aRu, .inl (tt 5, 5, .inr (.inr (.inr (.inr (fun j => some (eRu j)))))))], (wA eRu (tt 0) 5 25 vRu), [(aLa, .inl (tt 0, 5, .inl vLa))]]) H → va_D A (zW [[(aT, .inr (12, [.ref aCol, .int vTa, .ref aFa, .ref aRu, .int vRc, .ref aRo, .ref aLa, .ref aVa]))], [(aRu, .inl (tt 5, 5, .inr (.inr (.inr (.inr (fun j => some (eRu j)))))))], (wA eRu (tt 0) 5 25 vRu), [(aLa, .inl (tt 0, 5, .inl vLa))]]) → va_S A s.heap H locs → lv_has ls 6 [(0, .ref aT), (1, .int x1)] → W p l e (headSpec wsX13_findsLayers ({ frames := 1, cells := 0, slots := 0, locals := 60 } : Room)).room s m ([.ref aT] : List Value).toArray below meth c H locs 0 0 (MQ below (va_Qi (fun (r : Int32) (u : (Nat → Int32)) => r = bI RR.1 ∧ u = RR.2) (zAt G (zTy tt) A (fun u : (Nat → Int32) => zW [[(aT, .inr (12, [.ref aCol, .int vTa, .ref aFa, .ref aRu, .int vRc, .ref aRo, .ref aLa, .ref aVa]))], [(aRu, .inl (tt 5, 5, .inr (.inr (.inr (.inr (fun j => some (eRu j)))))))], (wA eRu (tt 0) 5 25 vRu), [(aLa, .inl (tt 0, 5, .inl u))]])) A) ([.ref aT] : List Value).toArray s 0 0 A) (F0 m 2 ls []) := by
    intro k2
    induction k2 with
    | zero => intro x1 vLa H locs ls hF; rw [hX13_findsLayers_2] at hF; cases hF
    | succ k2 ih2 =>
      intro x1 vLa H locs ls hF hP hD hS hl
      rw [hX13_findsLayers_2] at hF
      refine lv_iload_n hx hb dX13_findsLayers_2 rfl (lv_at hl 1 rfl) ?_
      refine lv_iconst (v := (5 : Int32)) hx hb dX13_findsLayers_3 (by decide) ?_
      refine lv_icmp_ge (tgt := 20) hx hb dX13_findsLayers_4 (by decide) (fun c_4 => ?_) (fun c_4 => ?_)
      · have hF := z_t c_4 hF
        refine lv_iconst (v := (0 : Int32)) hx hb dX13_findsLayers_20 (by decide) ?_
        refine lv_istore_n (lv' := [(1, .int (0 : Int32)), (0, .ref aT)]) hx hb dX13_findsLayers_21 rfl hl (by decide) rfl (fun ls hl => ?_)
        exact hb22 K _ _ _ _ _ hF hP hD hS (lv_sub hl [1, 0] rfl)
      · have hF := z_f c_4 hF
        refine lv_aload_n hx hb dX13_findsLayers_7 rfl (lv_at hl 0 rfl) ?_
        obtain ⟨k_8, hk_8, hs_8⟩ := zS_one hP 0 rfl
        refine va_get (D := G) (ci := 12) (v := .ref aLa) (C := RX13) (T := TX13) (N := 8) hx hb hts hiX13 hown hK hP k_8 hk_8 rfl 6 (by decide) (hts (.fieldLink RX13 32 "LeapTablesLaw$Told" "layers" "[I") (List.mem_of_getElem? (i := 1) rfl)) (fun _ h9 => h9) rfl dX13_findsLayers_8 ?_
        refine lv_iload_n hx hb dX13_findsLayers_11 rfl (lv_at hl 1 rfl) ?_
        refine lv_iconst (v := (0 : Int32)) hx hb dX13_findsLayers_12 (by decide) ?_
        obtain ⟨h_13, hF⟩ := z_in hF
        obtain ⟨k_13, hk_13, hs_13⟩ := zS_one hP 3 rfl
        refine va_iast hx hb hK hP hD hS k_13 0 hk_13 rfl h_13 dX13_findsLayers_13 (fun H locs hP hD hS => ?_)
        rw [hs_13] at hP hD
        have hP : va_P G vwCl (zW [[(aT, .inr (12, [.ref aCol, .int vTa, .ref aFa, .ref aRu, .int vRc, .ref aRo, .ref aLa, .ref aVa]))], [(aRu, .inl (tt 5, 5, .inr (.inr (.inr (.inr (fun j => some (eRu j)))))))], (wA eRu (tt 0) 5 25 vRu), [(aLa, .inl (tt 0, 5, .inl (upd vLa x1.toNatClampNeg (0 : Int32))))]]) H := hP
        have hD : va_D A (zW [[(aT, .inr (12, [.ref aCol, .int vTa, .ref aFa, .ref aRu, .int vRc, .ref aRo, .ref aLa, .ref aVa]))], [(aRu, .inl (tt 5, 5, .inr (.inr (.inr (.inr (fun j => some (eRu j)))))))], (wA eRu (tt 0) 5 25 vRu), [(aLa, .inl (tt 0, 5, .inl (upd vLa x1.toNatClampNeg (0 : Int32))))]]) := hD
        refine lv_iinc (v := (x1 + (1 : Int32))) (lv' := [(1, .int (x1 + (1 : Int32))), (0, .ref aT)]) hx hb dX13_findsLayers_14 hl (k := 1) rfl rfl (by decide) rfl (fun ls hl => ?_)
        refine lv_goto (tgt := 2) hx hb dX13_findsLayers_17 (by decide) ?_
        exact ih2 _ _ _ _ _ hF hP hD hS (lv_sub hl [1, 0] rfl)
  obtain ⟨H, hHe⟩ : ∃ H : Heap, s.heap = H := ⟨_, rfl⟩
  have hS : va_S A s.heap H [] := by rw [← hHe]; exact va_S.rf
  rw [hHe] at hP ⊢
  unfold hX13_findsLayers at hF
  refine lv_iconst (v := (0 : Int32)) hx hb dX13_findsLayers_0 (by decide) ?_
  refine lv_istore_n (lv' := [(1, .int (0 : Int32)), (0, .ref aT)]) hx hb dX13_findsLayers_1 rfl hl (by decide) rfl (fun ls hl => ?_)
  exact hb2 K _ _ _ _ _ hF hP hD hS (lv_sub hl [1, 0] rfl)

set_option maxHeartbeats 8000000 in
set_option maxRecDepth 100000 in
theorem oX13_rowCount (l : Launch) (G : va_G) (tt : Nat → ClassId) (sa : Nat → Nat) (hlt : l.stackTraces = false) (sz : Nat) (K : Nat) (aT : Nat) (aCol : Nat) (aFa : Nat) (aRu : Nat) (aRo : Nat) (aLa : Nat) (aVa : Nat) (eRo : Nat → Nat) (vTa : Int32) (vRc : Int32) (vRo : Nat → Nat → Int32) (p1 : Int32) (RR : Int32) (hF : hX13_rowCount K vRo p1 = some RR) : Met l yX13_rowCount wsX13_rowCount ({ frames := 1, cells := 0, slots := 0, locals := 60 } : Room) (zPreQ G (zTy tt) sa [.ref aT, .int p1] sz (zW [[(aT, .inr (12, [.ref aCol, .int vTa, .ref aFa, .ref aRu, .int vRc, .ref aRo, .ref aLa, .ref aVa]))], [(aRo, .inl (tt 6, 5, .inr (.inr (.inr (.inr (fun j => some (eRo j)))))))], (wA eRo (tt 2) 5 512 vRo)])) (va_Qi (fun (r : Int32) (_ : Unit) => r = RR) (zAt G (zTy tt) (va_A (zW [[(aT, .inr (12, [.ref aCol, .int vTa, .ref aFa, .ref aRu, .int vRc, .ref aRo, .ref aLa, .ref aVa]))], [(aRo, .inl (tt 6, 5, .inr (.inr (.inr (.inr (fun j => some (eRo j)))))))], (wA eRo (tt 2) 5 512 vRo)]) sz) (fun _ : Unit => zW [[(aT, .inr (12, [.ref aCol, .int vTa, .ref aFa, .ref aRu, .int vRc, .ref aRo, .ref aLa, .ref aVa]))], [(aRo, .inl (tt 6, 5, .inr (.inr (.inr (.inr (fun j => some (eRo j)))))))], (wA eRo (tt 2) 5 512 vRo)])) (va_A (zW [[(aT, .inr (12, [.ref aCol, .int vTa, .ref aFa, .ref aRu, .int vRc, .ref aRo, .ref aLa, .ref aVa]))], [(aRo, .inl (tt 6, 5, .inr (.inr (.inr (.inr (fun j => some (eRo j)))))))], (wA eRo (tt 2) 5 512 vRo)]) sz)) 0 0 (va_A (zW [[(aT, .inr (12, [.ref aCol, .int vTa, .ref aFa, .ref aRu, .int vRc, .ref aRo, .ref aLa, .ref aVa]))], [(aRo, .inl (tt 6, 5, .inr (.inr (.inr (.inr (fun j => some (eRo j)))))))], (wA eRo (tt 2) 5 512 vRo)]) sz) := by
  refine Met.ofW (cc := cX13_rowCount) (maxL := 4) (ret := (some .int)) (by decide +kernel) rfl ?_
  intro p e s m args below meth c s₁ B hml hv
  obtain ⟨rfl, hsz, hP, hK, hD0, hN, hX, hO, hAA⟩ := hv
  have hx := B.exec
  have hb := B.bytes
  have hr := B.returns
  have hts := atoms_spec (ws := wsX13_rowCount) B.pre
  have hown : s.vm.findClass RX13 = some m.cls := findClass_of_methodNamed B.named
  have hlocks := B.notSynchronized
  subst hsz
  have hD := hD0.self (sz := s.heap.size)
  generalize hAe : va_A (zW [[(aT, .inr (12, [.ref aCol, .int vTa, .ref aFa, .ref aRu, .int vRc, .ref aRo, .ref aLa, .ref aVa]))], [(aRo, .inl (tt 6, 5, .inr (.inr (.inr (.inr (fun j => some (eRo j)))))))], (wA eRo (tt 2) 5 512 vRo)]) s.heap.size = A at hD hX ⊢
  have hA : ∀ q : Nat, s.heap.size ≤ q → A q := fun q h => by rw [← hAe]; exact Or.inr h
  have hP : va_P G vwCl (zW [[(aT, .inr (12, [.ref aCol, .int vTa, .ref aFa, .ref aRu, .int vRc, .ref aRo, .ref aLa, .ref aVa]))], [(aRo, .inl (tt 6, 5, .inr (.inr (.inr (.inr (fun j => some (eRo j)))))))], (wA eRo (tt 2) 5 512 vRo)]) s.heap := hP
  have hiX13 : ∀ w ∈ wsX130, w ∈ wsX13_rowCount := by decide +kernel
  have hl := lv_entry ([.ref aT, .int p1]) (n := 4) (Nat.le_of_ble_eq_true rfl)
  rw [lg_entry_eq]
  generalize (lg_sl ([.ref aT, .int p1]) ++ List.replicate (4 - (lg_sl ([.ref aT, .int p1])).length) Slot.unset).toArray = ls at hl ⊢
  have hl : lv_has ls 4 [(0, .ref aT), (1, .int p1)] := hl
  have hb4 : ∀ (k4 : Nat), ∀ (x2 : Int32) (x3 : Int32)  (H : Heap) (locs : List Loc) (ls : Array Slot), hX13_rowCount_4 K vRo p1 k4 x2 x3 = some RR → va_P G vwCl (zW [[(aT, .inr (12, [.ref aCol, .int vTa, .ref aFa, .ref aRu, .int vRc, .ref aRo, .ref aLa, .ref aVa]))], [(aRo, .inl (tt 6, 5, .inr (.inr (.inr (.inr (fun j => some (eRo j)))))))], (wA eRo (tt 2) 5 512 vRo)]) H → va_D A (zW [[(aT, .inr (12, [.ref aCol, .int vTa, .ref aFa, .ref aRu, .int vRc, .ref aRo, .ref aLa, .ref aVa]))], [(aRo, .inl (tt 6, 5, .inr (.inr (.inr (.inr (fun j => some (eRo j)))))))], (wA eRo (tt 2) 5 512 vRo)]) → va_S A s.heap H locs → lv_has ls 4 [(0, .ref aT), (1, .int p1), (2, .int x2), (3, .int x3)] → W p l e (headSpec wsX13_rowCount ({ frames := 1, cells := 0, slots := 0, locals := 60 } : Room)).room s m ([.ref aT, .int p1] : List Value).toArray below meth c H locs 0 0 (MQ below (va_Qi (fun (r : Int32) (_ : Unit) => r = RR) (zAt G (zTy tt) A (fun _ : Unit => zW [[(aT, .inr (12, [.ref aCol, .int vTa, .ref aFa, .ref aRu, .int vRc, .ref aRo, .ref aLa, .ref aVa]))], [(aRo, .inl (tt 6, 5, .inr (.inr (.inr (.inr (fun j => some (eRo j)))))))], (wA eRo (tt 2) 5 512 vRo)])) A) ([.ref aT, .int p1] : List Value).toArray s 0 0 A) (F0 m 4 ls []) := by
    intro k4
    induction k4 with
    | zero => intro x2 x3 H locs ls hF; rw [hX13_rowCount_4] at hF; cases hF
    | succ k4 ih4 =>
      have hb28 : ∀ (x3 : Int32) (t0 : Int32) (t1 : Int32)  (H : Heap) (locs : List Loc) (ls : Array Slot), hX13_rowCount_28 K vRo p1 (hX13_rowCount_4 K vRo p1 k4) x3 t0 t1 = some RR → va_P G vwCl (zW [[(aT, .inr (12, [.ref aCol, .int vTa, .ref aFa, .ref aRu, .int vRc, .ref aRo, .ref aLa, .ref aVa]))], [(aRo, .inl (tt 6, 5, .inr (.inr (.inr (.inr (fun j => some (eRo j)))))))], (wA eRo (tt 2) 5 512 vRo)]) H → va_D A (zW [[(aT, .inr (12, [.ref aCol, .int vTa, .ref aFa, .ref aRu, .int vRc, .ref aRo, .ref aLa, .ref aVa]))], [(aRo, .inl (tt 6, 5, .inr (.inr (.inr (.inr (fun j => some (eRo j)))))))], (wA eRo (tt 2) 5 512 vRo)]) → va_S A s.heap H locs → lv_has ls 4 [(0, .ref aT), (1, .int p1), (3, .int x3)] → W p l e (headSpec wsX13_rowCount ({ frames := 1, cells := 0, slots := 0, locals := 60 } : Room)).room s m ([.ref aT, .int p1] : List Value).toArray below meth c H locs 0 0 (MQ below (va_Qi (fun (r : Int32) (_ : Unit) => r = RR) (zAt G (zTy tt) A (fun _ : Unit => zW [[(aT, .inr (12, [.ref aCol, .int vTa, .ref aFa, .ref aRu, .int vRc, .ref aRo, .ref aLa, .ref aVa]))], [(aRo, .inl (tt 6, 5, .inr (.inr (.inr (.inr (fun j => some (eRo j)))))))], (wA eRo (tt 2) 5 512 vRo)])) A) ([.ref aT, .int p1] : List Value).toArray s 0 0 A) (F0 m 28 ls [.int t1, .int t0]) := by
        intro x3 t0 t1 H locs ls hF hP hD hS hl
        unfold hX13_rowCount_28 at hF
        refine lv_iadd hx hb dX13_rowCount_28 ?_
        refine lv_istore_n (lv' := [(2, .int (t0 + t1)), (0, .ref aT), (1, .int p1), (3, .int x3)]) hx hb dX13_rowCount_29 rfl hl (by decide) rfl (fun ls hl => ?_)
        refine lv_iinc (v := (x3 + (1 : Int32))) (lv' := [(3, .int (x3 + (1 : Int32))), (2, .int (t0 + t1)), (0, .ref aT), (1, .int p1)]) hx hb dX13_rowCount_30 hl (k := 3) rfl rfl (by decide) rfl (fun ls hl => ?_)
        refine lv_goto (tgt := 4) hx hb dX13_rowCount_33 (by decide) ?_
        exact ih4 _ _ _ _ _ hF hP hD hS (lv_sub hl [2, 3, 1, 0] rfl)
      intro x2 x3 H locs ls hF hP hD hS hl
      rw [hX13_rowCount_4] at hF
      refine lv_iload_n hx hb dX13_rowCount_4 rfl (lv_at hl 3 rfl) ?_
      refine lv_sipush (v := (512 : Int32)) hx hb dX13_rowCount_5 (by decide) ?_
      refine lv_icmp_ge (tgt := 36) hx hb dX13_rowCount_8 (by decide) (fun c_8 => ?_) (fun c_8 => ?_)
      · have hF := z_t c_8 hF
        refine lv_iload_n hx hb dX13_rowCount_36 rfl (lv_at hl 2 rfl) ?_
        have hp9 : (zW [[(aT, .inr (12, [.ref aCol, .int vTa, .ref aFa, .ref aRu, .int vRc, .ref aRo, .ref aLa, .ref aVa]))], [(aRo, .inl (tt 6, 5, .inr (.inr (.inr (.inr (fun j => some (eRo j)))))))], (wA eRo (tt 2) 5 512 vRo)]).Perm (zW [[(aT, .inr (12, [.ref aCol, .int vTa, .ref aFa, .ref aRu, .int vRc, .ref aRo, .ref aLa, .ref aVa]))], [(aRo, .inl (tt 6, 5, .inr (.inr (.inr (.inr (fun j => some (eRo j)))))))], (wA eRo (tt 2) 5 512 vRo)] ++ zW []) := zS_cut (is := [0, 1, 2]) (js := []) 3 rfl rfl rfl (by decide)
        have hP9 : va_P G vwCl (zW [[(aT, .inr (12, [.ref aCol, .int vTa, .ref aFa, .ref aRu, .int vRc, .ref aRo, .ref aLa, .ref aVa]))], [(aRo, .inl (tt 6, 5, .inr (.inr (.inr (.inr (fun j => some (eRo j)))))))], (wA eRo (tt 2) 5 512 vRo)]) H := zS_subP hp9 hP
        have hD9 : va_D A (zW [[(aT, .inr (12, [.ref aCol, .int vTa, .ref aFa, .ref aRu, .int vRc, .ref aRo, .ref aLa, .ref aVa]))], [(aRo, .inl (tt 6, 5, .inr (.inr (.inr (.inr (fun j => some (eRo j)))))))], (wA eRo (tt 2) 5 512 vRo)]) := zS_subD hp9 hD
        have hR := Option.some.inj hF
        exact W.iret (v := x2) hx hb hr (fun t ht hW => ⟨⟨x2, (), rfl, (by subst hR; rfl), by rw [ht]; exact hP9, va_K.moved hW.alike hK, hD9⟩, hS.F ht⟩) hS.2.2 dX13_rowCount_37
      · have hF := z_f c_8 hF
        refine lv_iload_n hx hb dX13_rowCount_11 rfl (lv_at hl 2 rfl) ?_
        refine lv_aload_n hx hb dX13_rowCount_12 rfl (lv_at hl 0 rfl) ?_
        obtain ⟨k_13, hk_13, hs_13⟩ := zS_one hP 0 rfl
        refine va_get (D := G) (ci := 12) (v := .ref aRo) (C := RX13) (T := TX13) (N := 8) hx hb hts hiX13 hown hK hP k_13 hk_13 rfl 5 (by decide) (hts (.fieldLink RX13 29 "LeapTablesLaw$Told" "rows" "[[Z") (List.mem_of_getElem? (i := 1) rfl)) (fun _ h9 => h9) rfl dX13_rowCount_13 ?_
        refine lv_iload_n hx hb dX13_rowCount_16 rfl (lv_at hl 1 rfl) ?_
        obtain ⟨h_17, hF⟩ := z_in hF
        obtain ⟨k_17, hk_17, hs_17⟩ := zS_one hP 1 rfl
        refine zA_aald (f := eRo) hx hb hK hP k_17 6 hk_17 rfl h_17 dX13_rowCount_17 ?_
        refine lv_iload_n hx hb dX13_rowCount_18 rfl (lv_at hl 3 rfl) ?_
        obtain ⟨h_19, hF⟩ := z_in hF
        obtain ⟨k_19, hk_19, hs_19⟩ := zS_fam hP 2 rfl (zlt_of h_17)
        refine va_zald hx hb hK hP k_19 2 hk_19 rfl h_19 dX13_rowCount_19 ?_
        refine lv_if_eq (tgt := 27) hx hb dX13_rowCount_20 (by decide) (fun c_20 => ?_) (fun c_20 => ?_)
        · have hF := z_t c_20 hF
          refine lv_iconst (v := (0 : Int32)) hx hb dX13_rowCount_27 (by decide) ?_
          exact hb28 _ _ _ _ _ _ hF hP hD hS (lv_sub hl [0, 1, 3] rfl)
        · have hF := z_f c_20 hF
          refine lv_iconst (v := (1 : Int32)) hx hb dX13_rowCount_23 (by decide) ?_
          refine lv_goto (tgt := 28) hx hb dX13_rowCount_24 (by decide) ?_
          exact hb28 _ _ _ _ _ _ hF hP hD hS (lv_sub hl [0, 1, 3] rfl)
  obtain ⟨H, hHe⟩ : ∃ H : Heap, s.heap = H := ⟨_, rfl⟩
  have hS : va_S A s.heap H [] := by rw [← hHe]; exact va_S.rf
  rw [hHe] at hP ⊢
  unfold hX13_rowCount at hF
  refine lv_iconst (v := (0 : Int32)) hx hb dX13_rowCount_0 (by decide) ?_
  refine lv_istore_n (lv' := [(2, .int (0 : Int32)), (0, .ref aT), (1, .int p1)]) hx hb dX13_rowCount_1 rfl hl (by decide) rfl (fun ls hl => ?_)
  refine lv_iconst (v := (0 : Int32)) hx hb dX13_rowCount_2 (by decide) ?_
  refine lv_istore_n (lv' := [(3, .int (0 : Int32)), (2, .int (0 : Int32)), (0, .ref aT), (1, .int p1)]) hx hb dX13_rowCount_3 rfl hl (by decide) rfl (fun ls hl => ?_)
  exact hb4 K _ _ _ _ _ hF hP hD hS (lv_sub hl [2, 3, 1, 0] rfl)

set_option maxHeartbeats 8000000 in
set_option maxRecDepth 100000 in
theorem oX13_factCount (l : Launch) (G : va_G) (tt : Nat → ClassId) (sa : Nat → Nat) (hlt : l.stackTraces = false) (sz : Nat) (K : Nat) (aT : Nat) (aCol : Nat) (aFa : Nat) (aRu : Nat) (aRo : Nat) (aLa : Nat) (aVa : Nat) (eFa : Nat → Nat) (vTa : Int32) (vRc : Int32) (vFa : Nat → Nat → Int32) (p1 : Int32) (RR : Int32) (hF : hX13_factCount K vFa p1 = some RR) : Met l yX13_factCount wsX13_factCount ({ frames := 1, cells := 0, slots := 0, locals := 60 } : Room) (zPreQ G (zTy tt) sa [.ref aT, .int p1] sz (zW [[(aT, .inr (12, [.ref aCol, .int vTa, .ref aFa, .ref aRu, .int vRc, .ref aRo, .ref aLa, .ref aVa]))], [(aFa, .inl (tt 6, 5, .inr (.inr (.inr (.inr (fun j => some (eFa j)))))))], (wA eFa (tt 2) 5 512 vFa)])) (va_Qi (fun (r : Int32) (_ : Unit) => r = RR) (zAt G (zTy tt) (va_A (zW [[(aT, .inr (12, [.ref aCol, .int vTa, .ref aFa, .ref aRu, .int vRc, .ref aRo, .ref aLa, .ref aVa]))], [(aFa, .inl (tt 6, 5, .inr (.inr (.inr (.inr (fun j => some (eFa j)))))))], (wA eFa (tt 2) 5 512 vFa)]) sz) (fun _ : Unit => zW [[(aT, .inr (12, [.ref aCol, .int vTa, .ref aFa, .ref aRu, .int vRc, .ref aRo, .ref aLa, .ref aVa]))], [(aFa, .inl (tt 6, 5, .inr (.inr (.inr (.inr (fun j => some (eFa j)))))))], (wA eFa (tt 2) 5 512 vFa)])) (va_A (zW [[(aT, .inr (12, [.ref aCol, .int vTa, .ref aFa, .ref aRu, .int vRc, .ref aRo, .ref aLa, .ref aVa]))], [(aFa, .inl (tt 6, 5, .inr (.inr (.inr (.inr (fun j => some (eFa j)))))))], (wA eFa (tt 2) 5 512 vFa)]) sz)) 0 0 (va_A (zW [[(aT, .inr (12, [.ref aCol, .int vTa, .ref aFa, .ref aRu, .int vRc, .ref aRo, .ref aLa, .ref aVa]))], [(aFa, .inl (tt 6, 5, .inr (.inr (.inr (.inr (fun j => some (eFa j)))))))], (wA eFa (tt 2) 5 512 vFa)]) sz) := by
  refine Met.ofW (cc := cX13_factCount) (maxL := 4) (ret := (some .int)) (by decide +kernel) rfl ?_
  intro p e s m args below meth c s₁ B hml hv
  obtain ⟨rfl, hsz, hP, hK, hD0, hN, hX, hO, hAA⟩ := hv
  have hx := B.exec
  have hb := B.bytes
  have hr := B.returns
  have hts := atoms_spec (ws := wsX13_factCount) B.pre
  have hown : s.vm.findClass RX13 = some m.cls := findClass_of_methodNamed B.named
  have hlocks := B.notSynchronized
  subst hsz
  have hD := hD0.self (sz := s.heap.size)
  generalize hAe : va_A (zW [[(aT, .inr (12, [.ref aCol, .int vTa, .ref aFa, .ref aRu, .int vRc, .ref aRo, .ref aLa, .ref aVa]))], [(aFa, .inl (tt 6, 5, .inr (.inr (.inr (.inr (fun j => some (eFa j)))))))], (wA eFa (tt 2) 5 512 vFa)]) s.heap.size = A at hD hX ⊢
  have hA : ∀ q : Nat, s.heap.size ≤ q → A q := fun q h => by rw [← hAe]; exact Or.inr h
  have hP : va_P G vwCl (zW [[(aT, .inr (12, [.ref aCol, .int vTa, .ref aFa, .ref aRu, .int vRc, .ref aRo, .ref aLa, .ref aVa]))], [(aFa, .inl (tt 6, 5, .inr (.inr (.inr (.inr (fun j => some (eFa j)))))))], (wA eFa (tt 2) 5 512 vFa)]) s.heap := hP
  have hiX13 : ∀ w ∈ wsX130, w ∈ wsX13_factCount := by decide +kernel
  have hl := lv_entry ([.ref aT, .int p1]) (n := 4) (Nat.le_of_ble_eq_true rfl)
  rw [lg_entry_eq]
  generalize (lg_sl ([.ref aT, .int p1]) ++ List.replicate (4 - (lg_sl ([.ref aT, .int p1])).length) Slot.unset).toArray = ls at hl ⊢
  have hl : lv_has ls 4 [(0, .ref aT), (1, .int p1)] := hl
  have hb4 : ∀ (k4 : Nat), ∀ (x2 : Int32) (x3 : Int32)  (H : Heap) (locs : List Loc) (ls : Array Slot), hX13_factCount_4 K vFa p1 k4 x2 x3 = some RR → va_P G vwCl (zW [[(aT, .inr (12, [.ref aCol, .int vTa, .ref aFa, .ref aRu, .int vRc, .ref aRo, .ref aLa, .ref aVa]))], [(aFa, .inl (tt 6, 5, .inr (.inr (.inr (.inr (fun j => some (eFa j)))))))], (wA eFa (tt 2) 5 512 vFa)]) H → va_D A (zW [[(aT, .inr (12, [.ref aCol, .int vTa, .ref aFa, .ref aRu, .int vRc, .ref aRo, .ref aLa, .ref aVa]))], [(aFa, .inl (tt 6, 5, .inr (.inr (.inr (.inr (fun j => some (eFa j)))))))], (wA eFa (tt 2) 5 512 vFa)]) → va_S A s.heap H locs → lv_has ls 4 [(0, .ref aT), (1, .int p1), (2, .int x2), (3, .int x3)] → W p l e (headSpec wsX13_factCount ({ frames := 1, cells := 0, slots := 0, locals := 60 } : Room)).room s m ([.ref aT, .int p1] : List Value).toArray below meth c H locs 0 0 (MQ below (va_Qi (fun (r : Int32) (_ : Unit) => r = RR) (zAt G (zTy tt) A (fun _ : Unit => zW [[(aT, .inr (12, [.ref aCol, .int vTa, .ref aFa, .ref aRu, .int vRc, .ref aRo, .ref aLa, .ref aVa]))], [(aFa, .inl (tt 6, 5, .inr (.inr (.inr (.inr (fun j => some (eFa j)))))))], (wA eFa (tt 2) 5 512 vFa)])) A) ([.ref aT, .int p1] : List Value).toArray s 0 0 A) (F0 m 4 ls []) := by
    intro k4
    induction k4 with
    | zero => intro x2 x3 H locs ls hF; rw [hX13_factCount_4] at hF; cases hF
    | succ k4 ih4 =>
      have hb28 : ∀ (x3 : Int32) (t0 : Int32) (t1 : Int32)  (H : Heap) (locs : List Loc) (ls : Array Slot), hX13_factCount_28 K vFa p1 (hX13_factCount_4 K vFa p1 k4) x3 t0 t1 = some RR → va_P G vwCl (zW [[(aT, .inr (12, [.ref aCol, .int vTa, .ref aFa, .ref aRu, .int vRc, .ref aRo, .ref aLa, .ref aVa]))], [(aFa, .inl (tt 6, 5, .inr (.inr (.inr (.inr (fun j => some (eFa j)))))))], (wA eFa (tt 2) 5 512 vFa)]) H → va_D A (zW [[(aT, .inr (12, [.ref aCol, .int vTa, .ref aFa, .ref aRu, .int vRc, .ref aRo, .ref aLa, .ref aVa]))], [(aFa, .inl (tt 6, 5, .inr (.inr (.inr (.inr (fun j => some (eFa j)))))))], (wA eFa (tt 2) 5 512 vFa)]) → va_S A s.heap H locs → lv_has ls 4 [(0, .ref aT), (1, .int p1), (3, .int x3)] → W p l e (headSpec wsX13_factCount ({ frames := 1, cells := 0, slots := 0, locals := 60 } : Room)).room s m ([.ref aT, .int p1] : List Value).toArray below meth c H locs 0 0 (MQ below (va_Qi (fun (r : Int32) (_ : Unit) => r = RR) (zAt G (zTy tt) A (fun _ : Unit => zW [[(aT, .inr (12, [.ref aCol, .int vTa, .ref aFa, .ref aRu, .int vRc, .ref aRo, .ref aLa, .ref aVa]))], [(aFa, .inl (tt 6, 5, .inr (.inr (.inr (.inr (fun j => some (eFa j)))))))], (wA eFa (tt 2) 5 512 vFa)])) A) ([.ref aT, .int p1] : List Value).toArray s 0 0 A) (F0 m 28 ls [.int t1, .int t0]) := by
        intro x3 t0 t1 H locs ls hF hP hD hS hl
        unfold hX13_factCount_28 at hF
        refine lv_iadd hx hb dX13_factCount_28 ?_
        refine lv_istore_n (lv' := [(2, .int (t0 + t1)), (0, .ref aT), (1, .int p1), (3, .int x3)]) hx hb dX13_factCount_29 rfl hl (by decide) rfl (fun ls hl => ?_)
        refine lv_iinc (v := (x3 + (1 : Int32))) (lv' := [(3, .int (x3 + (1 : Int32))), (2, .int (t0 + t1)), (0, .ref aT), (1, .int p1)]) hx hb dX13_factCount_30 hl (k := 3) rfl rfl (by decide) rfl (fun ls hl => ?_)
        refine lv_goto (tgt := 4) hx hb dX13_factCount_33 (by decide) ?_
        exact ih4 _ _ _ _ _ hF hP hD hS (lv_sub hl [2, 3, 1, 0] rfl)
      intro x2 x3 H locs ls hF hP hD hS hl
      rw [hX13_factCount_4] at hF
      refine lv_iload_n hx hb dX13_factCount_4 rfl (lv_at hl 3 rfl) ?_
      refine lv_sipush (v := (512 : Int32)) hx hb dX13_factCount_5 (by decide) ?_
      refine lv_icmp_ge (tgt := 36) hx hb dX13_factCount_8 (by decide) (fun c_8 => ?_) (fun c_8 => ?_)
      · have hF := z_t c_8 hF
        refine lv_iload_n hx hb dX13_factCount_36 rfl (lv_at hl 2 rfl) ?_
        have hp9 : (zW [[(aT, .inr (12, [.ref aCol, .int vTa, .ref aFa, .ref aRu, .int vRc, .ref aRo, .ref aLa, .ref aVa]))], [(aFa, .inl (tt 6, 5, .inr (.inr (.inr (.inr (fun j => some (eFa j)))))))], (wA eFa (tt 2) 5 512 vFa)]).Perm (zW [[(aT, .inr (12, [.ref aCol, .int vTa, .ref aFa, .ref aRu, .int vRc, .ref aRo, .ref aLa, .ref aVa]))], [(aFa, .inl (tt 6, 5, .inr (.inr (.inr (.inr (fun j => some (eFa j)))))))], (wA eFa (tt 2) 5 512 vFa)] ++ zW []) := zS_cut (is := [0, 1, 2]) (js := []) 3 rfl rfl rfl (by decide)
        have hP9 : va_P G vwCl (zW [[(aT, .inr (12, [.ref aCol, .int vTa, .ref aFa, .ref aRu, .int vRc, .ref aRo, .ref aLa, .ref aVa]))], [(aFa, .inl (tt 6, 5, .inr (.inr (.inr (.inr (fun j => some (eFa j)))))))], (wA eFa (tt 2) 5 512 vFa)]) H := zS_subP hp9 hP
        have hD9 : va_D A (zW [[(aT, .inr (12, [.ref aCol, .int vTa, .ref aFa, .ref aRu, .int vRc, .ref aRo, .ref aLa, .ref aVa]))], [(aFa, .inl (tt 6, 5, .inr (.inr (.inr (.inr (fun j => some (eFa j)))))))], (wA eFa (tt 2) 5 512 vFa)]) := zS_subD hp9 hD
        have hR := Option.some.inj hF
        exact W.iret (v := x2) hx hb hr (fun t ht hW => ⟨⟨x2, (), rfl, (by subst hR; rfl), by rw [ht]; exact hP9, va_K.moved hW.alike hK, hD9⟩, hS.F ht⟩) hS.2.2 dX13_factCount_37
      · have hF := z_f c_8 hF
        refine lv_iload_n hx hb dX13_factCount_11 rfl (lv_at hl 2 rfl) ?_
        refine lv_aload_n hx hb dX13_factCount_12 rfl (lv_at hl 0 rfl) ?_
        obtain ⟨k_13, hk_13, hs_13⟩ := zS_one hP 0 rfl
        refine va_get (D := G) (ci := 12) (v := .ref aFa) (C := RX13) (T := TX13) (N := 8) hx hb hts hiX13 hown hK hP k_13 hk_13 rfl 2 (by decide) (hts (.fieldLink RX13 21 "LeapTablesLaw$Told" "facts" "[[Z") (List.mem_of_getElem? (i := 1) rfl)) (fun _ h9 => h9) rfl dX13_factCount_13 ?_
        refine lv_iload_n hx hb dX13_factCount_16 rfl (lv_at hl 1 rfl) ?_
        obtain ⟨h_17, hF⟩ := z_in hF
        obtain ⟨k_17, hk_17, hs_17⟩ := zS_one hP 1 rfl
        refine zA_aald (f := eFa) hx hb hK hP k_17 6 hk_17 rfl h_17 dX13_factCount_17 ?_
        refine lv_iload_n hx hb dX13_factCount_18 rfl (lv_at hl 3 rfl) ?_
        obtain ⟨h_19, hF⟩ := z_in hF
        obtain ⟨k_19, hk_19, hs_19⟩ := zS_fam hP 2 rfl (zlt_of h_17)
        refine va_zald hx hb hK hP k_19 2 hk_19 rfl h_19 dX13_factCount_19 ?_
        refine lv_if_eq (tgt := 27) hx hb dX13_factCount_20 (by decide) (fun c_20 => ?_) (fun c_20 => ?_)
        · have hF := z_t c_20 hF
          refine lv_iconst (v := (0 : Int32)) hx hb dX13_factCount_27 (by decide) ?_
          exact hb28 _ _ _ _ _ _ hF hP hD hS (lv_sub hl [0, 1, 3] rfl)
        · have hF := z_f c_20 hF
          refine lv_iconst (v := (1 : Int32)) hx hb dX13_factCount_23 (by decide) ?_
          refine lv_goto (tgt := 28) hx hb dX13_factCount_24 (by decide) ?_
          exact hb28 _ _ _ _ _ _ hF hP hD hS (lv_sub hl [0, 1, 3] rfl)
  obtain ⟨H, hHe⟩ : ∃ H : Heap, s.heap = H := ⟨_, rfl⟩
  have hS : va_S A s.heap H [] := by rw [← hHe]; exact va_S.rf
  rw [hHe] at hP ⊢
  unfold hX13_factCount at hF
  refine lv_iconst (v := (0 : Int32)) hx hb dX13_factCount_0 (by decide) ?_
  refine lv_istore_n (lv' := [(2, .int (0 : Int32)), (0, .ref aT), (1, .int p1)]) hx hb dX13_factCount_1 rfl hl (by decide) rfl (fun ls hl => ?_)
  refine lv_iconst (v := (0 : Int32)) hx hb dX13_factCount_2 (by decide) ?_
  refine lv_istore_n (lv' := [(3, .int (0 : Int32)), (2, .int (0 : Int32)), (0, .ref aT), (1, .int p1)]) hx hb dX13_factCount_3 rfl hl (by decide) rfl (fun ls hl => ?_)
  exact hb4 K _ _ _ _ _ hF hP hD hS (lv_sub hl [2, 3, 1, 0] rfl)

set_option maxHeartbeats 8000000 in
set_option maxRecDepth 100000 in
theorem oX13_applies (l : Launch) (G : va_G) (tt : Nat → ClassId) (sa : Nat → Nat) (hlt : l.stackTraces = false) (sz : Nat) (K : Nat) (aT : Nat) (aCol : Nat) (aFa : Nat) (aRu : Nat) (aRo : Nat) (aLa : Nat) (aVa : Nat) (eRu : Nat → Nat) (eRo : Nat → Nat) (vTa : Int32) (vRc : Int32) (vCol : Nat → Int32) (vRu : Nat → Nat → Int32) (vRo : Nat → Nat → Int32) (vVa : Nat → Int32) (p1 : Int32) (RR : Bool × (Nat → Nat → Int32) × (Nat → Int32)) (hF : hX13_applies K vCol vRu p1 vRo vVa = some RR) : Met l yX13_applies wsX13_applies ({ frames := 4, cells := 0, slots := 0, locals := 129 } : Room) (zPreQ G (zTy tt) sa [.ref aT, .int p1] sz (zW [[(aT, .inr (12, [.ref aCol, .int vTa, .ref aFa, .ref aRu, .int vRc, .ref aRo, .ref aLa, .ref aVa]))], [(aCol, .inl (tt 0, 5, .inl vCol))], [(aRu, .inl (tt 5, 5, .inr (.inr (.inr (.inr (fun j => some (eRu j)))))))], (wA eRu (tt 0) 5 25 vRu), [(aRo, .inl (tt 6, 5, .inr (.inr (.inr (.inr (fun j => some (eRo j)))))))], (wA eRo (tt 2) 5 512 vRo), [(aVa, .inl (tt 0, 4, .inl vVa))]])) (va_Qi (fun (r : Int32) (u : (Nat → Nat → Int32) × (Nat → Int32)) => r = bI RR.1 ∧ u = RR.2) (zAt G (zTy tt) (va_A (zW [[(aT, .inr (12, [.ref aCol, .int vTa, .ref aFa, .ref aRu, .int vRc, .ref aRo, .ref aLa, .ref aVa]))], [(aCol, .inl (tt 0, 5, .inl vCol))], [(aRu, .inl (tt 5, 5, .inr (.inr (.inr (.inr (fun j => some (eRu j)))))))], (wA eRu (tt 0) 5 25 vRu), [(aRo, .inl (tt 6, 5, .inr (.inr (.inr (.inr (fun j => some (eRo j)))))))], (wA eRo (tt 2) 5 512 vRo), [(aVa, .inl (tt 0, 4, .inl vVa))]]) sz) (fun u : (Nat → Nat → Int32) × (Nat → Int32) => zW [[(aT, .inr (12, [.ref aCol, .int vTa, .ref aFa, .ref aRu, .int vRc, .ref aRo, .ref aLa, .ref aVa]))], [(aCol, .inl (tt 0, 5, .inl vCol))], [(aRu, .inl (tt 5, 5, .inr (.inr (.inr (.inr (fun j => some (eRu j)))))))], (wA eRu (tt 0) 5 25 vRu), [(aRo, .inl (tt 6, 5, .inr (.inr (.inr (.inr (fun j => some (eRo j)))))))], (wA eRo (tt 2) 5 512 u.1), [(aVa, .inl (tt 0, 4, .inl u.2))]])) (va_A (zW [[(aT, .inr (12, [.ref aCol, .int vTa, .ref aFa, .ref aRu, .int vRc, .ref aRo, .ref aLa, .ref aVa]))], [(aCol, .inl (tt 0, 5, .inl vCol))], [(aRu, .inl (tt 5, 5, .inr (.inr (.inr (.inr (fun j => some (eRu j)))))))], (wA eRu (tt 0) 5 25 vRu), [(aRo, .inl (tt 6, 5, .inr (.inr (.inr (.inr (fun j => some (eRo j)))))))], (wA eRo (tt 2) 5 512 vRo), [(aVa, .inl (tt 0, 4, .inl vVa))]]) sz)) 0 0 (va_A (zW [[(aT, .inr (12, [.ref aCol, .int vTa, .ref aFa, .ref aRu, .int vRc, .ref aRo, .ref aLa, .ref aVa]))], [(aCol, .inl (tt 0, 5, .inl vCol))], [(aRu, .inl (tt 5, 5, .inr (.inr (.inr (.inr (fun j => some (eRu j)))))))], (wA eRu (tt 0) 5 25 vRu), [(aRo, .inl (tt 6, 5, .inr (.inr (.inr (.inr (fun j => some (eRo j)))))))], (wA eRo (tt 2) 5 512 vRo), [(aVa, .inl (tt 0, 4, .inl vVa))]]) sz) := by
  refine Met.ofW (cc := cX13_applies) (maxL := 5) (ret := (some .boolean)) (by decide +kernel) rfl ?_
  intro p e s m args below meth c s₁ B hml hv
  obtain ⟨rfl, hsz, hP, hK, hD0, hN, hX, hO, hAA⟩ := hv
  have hx := B.exec
  have hb := B.bytes
  have hr := B.returns
  have hts := atoms_spec (ws := wsX13_applies) B.pre
  have hown : s.vm.findClass RX13 = some m.cls := findClass_of_methodNamed B.named
  have hlocks := B.notSynchronized
  subst hsz
  have hD := hD0.self (sz := s.heap.size)
  generalize hAe : va_A (zW [[(aT, .inr (12, [.ref aCol, .int vTa, .ref aFa, .ref aRu, .int vRc, .ref aRo, .ref aLa, .ref aVa]))], [(aCol, .inl (tt 0, 5, .inl vCol))], [(aRu, .inl (tt 5, 5, .inr (.inr (.inr (.inr (fun j => some (eRu j)))))))], (wA eRu (tt 0) 5 25 vRu), [(aRo, .inl (tt 6, 5, .inr (.inr (.inr (.inr (fun j => some (eRo j)))))))], (wA eRo (tt 2) 5 512 vRo), [(aVa, .inl (tt 0, 4, .inl vVa))]]) s.heap.size = A at hD hX ⊢
  have hA : ∀ q : Nat, s.heap.size ≤ q → A q := fun q h => by rw [← hAe]; exact Or.inr h
  have hP : va_P G vwCl (zW [[(aT, .inr (12, [.ref aCol, .int vTa, .ref aFa, .ref aRu, .int vRc, .ref aRo, .ref aLa, .ref aVa]))], [(aCol, .inl (tt 0, 5, .inl vCol))], [(aRu, .inl (tt 5, 5, .inr (.inr (.inr (.inr (fun j => some (eRu j)))))))], (wA eRu (tt 0) 5 25 vRu), [(aRo, .inl (tt 6, 5, .inr (.inr (.inr (.inr (fun j => some (eRo j)))))))], (wA eRo (tt 2) 5 512 vRo), [(aVa, .inl (tt 0, 4, .inl vVa))]]) s.heap := hP
  have hiX13 : ∀ w ∈ wsX130, w ∈ wsX13_applies := by decide +kernel
  have hl := lv_entry ([.ref aT, .int p1]) (n := 5) (Nat.le_of_ble_eq_true rfl)
  rw [lg_entry_eq]
  generalize (lg_sl ([.ref aT, .int p1]) ++ List.replicate (5 - (lg_sl ([.ref aT, .int p1])).length) Slot.unset).toArray = ls at hl ⊢
  have hl : lv_has ls 5 [(0, .ref aT), (1, .int p1)] := hl
  have hb12 : ∀ (k12 : Nat), ∀ (x2 : Int32) (x3 : Int32) (x4 : Int32) (vRo : Nat → Nat → Int32) (vVa : Nat → Int32)  (H : Heap) (locs : List Loc) (ls : Array Slot), hX13_applies_12 K vCol vRu p1 k12 x2 x3 x4 vRo vVa = some RR → va_P G vwCl (zW [[(aT, .inr (12, [.ref aCol, .int vTa, .ref aFa, .ref aRu, .int vRc, .ref aRo, .ref aLa, .ref aVa]))], [(aCol, .inl (tt 0, 5, .inl vCol))], [(aRu, .inl (tt 5, 5, .inr (.inr (.inr (.inr (fun j => some (eRu j)))))))], (wA eRu (tt 0) 5 25 vRu), [(aRo, .inl (tt 6, 5, .inr (.inr (.inr (.inr (fun j => some (eRo j)))))))], (wA eRo (tt 2) 5 512 vRo), [(aVa, .inl (tt 0, 4, .inl vVa))]]) H → va_D A (zW [[(aT, .inr (12, [.ref aCol, .int vTa, .ref aFa, .ref aRu, .int vRc, .ref aRo, .ref aLa, .ref aVa]))], [(aCol, .inl (tt 0, 5, .inl vCol))], [(aRu, .inl (tt 5, 5, .inr (.inr (.inr (.inr (fun j => some (eRu j)))))))], (wA eRu (tt 0) 5 25 vRu), [(aRo, .inl (tt 6, 5, .inr (.inr (.inr (.inr (fun j => some (eRo j)))))))], (wA eRo (tt 2) 5 512 vRo), [(aVa, .inl (tt 0, 4, .inl vVa))]]) → va_S A s.heap H locs → lv_has ls 5 [(0, .ref aT), (1, .int p1), (2, .int x2), (3, .int x3), (4, .int x4)] → W p l e (headSpec wsX13_applies ({ frames := 4, cells := 0, slots := 0, locals := 129 } : Room)).room s m ([.ref aT, .int p1] : List Value).toArray below meth c H locs 0 0 (MQ below (va_Qi (fun (r : Int32) (u : (Nat → Nat → Int32) × (Nat → Int32)) => r = bI RR.1 ∧ u = RR.2) (zAt G (zTy tt) A (fun u : (Nat → Nat → Int32) × (Nat → Int32) => zW [[(aT, .inr (12, [.ref aCol, .int vTa, .ref aFa, .ref aRu, .int vRc, .ref aRo, .ref aLa, .ref aVa]))], [(aCol, .inl (tt 0, 5, .inl vCol))], [(aRu, .inl (tt 5, 5, .inr (.inr (.inr (.inr (fun j => some (eRu j)))))))], (wA eRu (tt 0) 5 25 vRu), [(aRo, .inl (tt 6, 5, .inr (.inr (.inr (.inr (fun j => some (eRo j)))))))], (wA eRo (tt 2) 5 512 u.1), [(aVa, .inl (tt 0, 4, .inl u.2))]])) A) ([.ref aT, .int p1] : List Value).toArray s 0 0 A) (F0 m 12 ls []) := by
    intro k12
    induction k12 with
    | zero => intro x2 x3 x4 vRo vVa H locs ls hF; rw [hX13_applies_12] at hF; cases hF
    | succ k12 ih12 =>
      have hb75 : ∀ (x2 : Int32) (x3 : Int32) (x4 : Int32) (vRo : Nat → Nat → Int32) (vVa : Nat → Int32)  (H : Heap) (locs : List Loc) (ls : Array Slot), hX13_applies_75 K vCol vRu p1 (hX13_applies_12 K vCol vRu p1 k12) x2 x3 x4 vRo vVa = some RR → va_P G vwCl (zW [[(aT, .inr (12, [.ref aCol, .int vTa, .ref aFa, .ref aRu, .int vRc, .ref aRo, .ref aLa, .ref aVa]))], [(aCol, .inl (tt 0, 5, .inl vCol))], [(aRu, .inl (tt 5, 5, .inr (.inr (.inr (.inr (fun j => some (eRu j)))))))], (wA eRu (tt 0) 5 25 vRu), [(aRo, .inl (tt 6, 5, .inr (.inr (.inr (.inr (fun j => some (eRo j)))))))], (wA eRo (tt 2) 5 512 vRo), [(aVa, .inl (tt 0, 4, .inl vVa))]]) H → va_D A (zW [[(aT, .inr (12, [.ref aCol, .int vTa, .ref aFa, .ref aRu, .int vRc, .ref aRo, .ref aLa, .ref aVa]))], [(aCol, .inl (tt 0, 5, .inl vCol))], [(aRu, .inl (tt 5, 5, .inr (.inr (.inr (.inr (fun j => some (eRu j)))))))], (wA eRu (tt 0) 5 25 vRu), [(aRo, .inl (tt 6, 5, .inr (.inr (.inr (.inr (fun j => some (eRo j)))))))], (wA eRo (tt 2) 5 512 vRo), [(aVa, .inl (tt 0, 4, .inl vVa))]]) → va_S A s.heap H locs → lv_has ls 5 [(0, .ref aT), (1, .int p1), (2, .int x2), (3, .int x3), (4, .int x4)] → W p l e (headSpec wsX13_applies ({ frames := 4, cells := 0, slots := 0, locals := 129 } : Room)).room s m ([.ref aT, .int p1] : List Value).toArray below meth c H locs 0 0 (MQ below (va_Qi (fun (r : Int32) (u : (Nat → Nat → Int32) × (Nat → Int32)) => r = bI RR.1 ∧ u = RR.2) (zAt G (zTy tt) A (fun u : (Nat → Nat → Int32) × (Nat → Int32) => zW [[(aT, .inr (12, [.ref aCol, .int vTa, .ref aFa, .ref aRu, .int vRc, .ref aRo, .ref aLa, .ref aVa]))], [(aCol, .inl (tt 0, 5, .inl vCol))], [(aRu, .inl (tt 5, 5, .inr (.inr (.inr (.inr (fun j => some (eRu j)))))))], (wA eRu (tt 0) 5 25 vRu), [(aRo, .inl (tt 6, 5, .inr (.inr (.inr (.inr (fun j => some (eRo j)))))))], (wA eRo (tt 2) 5 512 u.1), [(aVa, .inl (tt 0, 4, .inl u.2))]])) A) ([.ref aT, .int p1] : List Value).toArray s 0 0 A) (F0 m 75 ls []) := by
        intro x2 x3 x4 vRo vVa H locs ls hF hP hD hS hl
        unfold hX13_applies_75 at hF
        refine lv_iinc (v := (x4 + (1 : Int32))) (lv' := [(4, .int (x4 + (1 : Int32))), (0, .ref aT), (1, .int p1), (2, .int x2), (3, .int x3)]) hx hb dX13_applies_75 hl (k := 4) rfl rfl (by decide) rfl (fun ls hl => ?_)
        refine lv_goto (tgt := 12) hx hb dX13_applies_78 (by decide) ?_
        exact ih12 _ _ _ _ _ _ _ _ hF hP hD hS (lv_sub hl [1, 2, 3, 4, 0] rfl)
      intro x2 x3 x4 vRo vVa H locs ls hF hP hD hS hl
      rw [hX13_applies_12] at hF
      refine lv_aload_n hx hb dX13_applies_12 rfl (lv_at hl 0 rfl) ?_
      refine lv_iload_n hx hb dX13_applies_13 rfl (lv_at hl 2 rfl) ?_
      refine lv_iload hx hb dX13_applies_14 (lv_at hl 4 rfl) ?_
      obtain ⟨q16, hc_16, hF⟩ := z_bind hF
      have hp_16 : (zW [[(aT, .inr (12, [.ref aCol, .int vTa, .ref aFa, .ref aRu, .int vRc, .ref aRo, .ref aLa, .ref aVa]))], [(aCol, .inl (tt 0, 5, .inl vCol))], [(aRu, .inl (tt 5, 5, .inr (.inr (.inr (.inr (fun j => some (eRu j)))))))], (wA eRu (tt 0) 5 25 vRu), [(aRo, .inl (tt 6, 5, .inr (.inr (.inr (.inr (fun j => some (eRo j)))))))], (wA eRo (tt 2) 5 512 vRo), [(aVa, .inl (tt 0, 4, .inl vVa))]]).Perm (zW [[(aT, .inr (12, [.ref aCol, .int vTa, .ref aFa, .ref aRu, .int vRc, .ref aRo, .ref aLa, .ref aVa]))], [(aVa, .inl (tt 0, 4, .inl vVa))]] ++ zW [[(aCol, .inl (tt 0, 5, .inl vCol))], [(aRu, .inl (tt 5, 5, .inr (.inr (.inr (.inr (fun j => some (eRu j)))))))], (wA eRu (tt 0) 5 25 vRu), [(aRo, .inl (tt 6, 5, .inr (.inr (.inr (.inr (fun j => some (eRo j)))))))], (wA eRo (tt 2) 5 512 vRo)]) := zS_cut (is := [0, 6]) (js := [1, 2, 3, 4, 5]) 7 rfl rfl rfl (by decide)
      refine s_backi (s_goV (As := [.int x2, .int x4]) (rest := []) (ci := 12) ⟨hx, hb, hml, hown, hts⟩ hK hN hX hO hAA hp_16 hP hD hS hA (oX13_chooses l G tt sa hlt H.size K aT aCol aFa aRu aRo aLa aVa vTa vRc vVa x2 x4 q16 hc_16) (cwV 2 hts gX13_applies_X13_chooses rfl rfl rfl (by decide +kernel) ⟨Nat.le_of_ble_eq_true rfl, Nat.le_of_ble_eq_true rfl⟩) rfl rfl rfl hl.1 rfl (Nat.le_of_ble_eq_true rfl) dX13_applies_16 ⟨Nat.le_of_ble_eq_true rfl, Nat.le_of_ble_eq_true rfl⟩) hp_16 hP hD hS hA (fun r_16 u H locs hw hP hD hS => ?_)
      obtain ⟨rfl, rfl⟩ := hw
      have hP : va_P G vwCl (zW [[(aCol, .inl (tt 0, 5, .inl vCol))], [(aRu, .inl (tt 5, 5, .inr (.inr (.inr (.inr (fun j => some (eRu j)))))))], (wA eRu (tt 0) 5 25 vRu), [(aRo, .inl (tt 6, 5, .inr (.inr (.inr (.inr (fun j => some (eRo j)))))))], (wA eRo (tt 2) 5 512 vRo), [(aT, .inr (12, [.ref aCol, .int vTa, .ref aFa, .ref aRu, .int vRc, .ref aRo, .ref aLa, .ref aVa]))], [(aVa, .inl (tt 0, 4, .inl q16.2))]]) H := hP
      have hD : va_D A (zW [[(aCol, .inl (tt 0, 5, .inl vCol))], [(aRu, .inl (tt 5, 5, .inr (.inr (.inr (.inr (fun j => some (eRu j)))))))], (wA eRu (tt 0) 5 25 vRu), [(aRo, .inl (tt 6, 5, .inr (.inr (.inr (.inr (fun j => some (eRo j)))))))], (wA eRo (tt 2) 5 512 vRo), [(aT, .inr (12, [.ref aCol, .int vTa, .ref aFa, .ref aRu, .int vRc, .ref aRo, .ref aLa, .ref aVa]))], [(aVa, .inl (tt 0, 4, .inl q16.2))]]) := hD
      refine lv_if_eq (tgt := 81) hx hb dX13_applies_19 (by decide) (fun c_19 => ?_) (fun c_19 => ?_)
      · have hF := z_t c_19 hF
        refine lv_iload_n hx hb dX13_applies_81 rfl (lv_at hl 3 rfl) ?_
        have hp9 : (zW [[(aCol, .inl (tt 0, 5, .inl vCol))], [(aRu, .inl (tt 5, 5, .inr (.inr (.inr (.inr (fun j => some (eRu j)))))))], (wA eRu (tt 0) 5 25 vRu), [(aRo, .inl (tt 6, 5, .inr (.inr (.inr (.inr (fun j => some (eRo j)))))))], (wA eRo (tt 2) 5 512 vRo), [(aT, .inr (12, [.ref aCol, .int vTa, .ref aFa, .ref aRu, .int vRc, .ref aRo, .ref aLa, .ref aVa]))], [(aVa, .inl (tt 0, 4, .inl q16.2))]]).Perm (zW [[(aT, .inr (12, [.ref aCol, .int vTa, .ref aFa, .ref aRu, .int vRc, .ref aRo, .ref aLa, .ref aVa]))], [(aCol, .inl (tt 0, 5, .inl vCol))], [(aRu, .inl (tt 5, 5, .inr (.inr (.inr (.inr (fun j => some (eRu j)))))))], (wA eRu (tt 0) 5 25 vRu), [(aRo, .inl (tt 6, 5, .inr (.inr (.inr (.inr (fun j => some (eRo j)))))))], (wA eRo (tt 2) 5 512 vRo), [(aVa, .inl (tt 0, 4, .inl q16.2))]] ++ zW []) := zS_cut (is := [5, 0, 1, 2, 3, 4, 6]) (js := []) 7 rfl rfl rfl (by decide)
        have hP9 : va_P G vwCl (zW [[(aT, .inr (12, [.ref aCol, .int vTa, .ref aFa, .ref aRu, .int vRc, .ref aRo, .ref aLa, .ref aVa]))], [(aCol, .inl (tt 0, 5, .inl vCol))], [(aRu, .inl (tt 5, 5, .inr (.inr (.inr (.inr (fun j => some (eRu j)))))))], (wA eRu (tt 0) 5 25 vRu), [(aRo, .inl (tt 6, 5, .inr (.inr (.inr (.inr (fun j => some (eRo j)))))))], (wA eRo (tt 2) 5 512 vRo), [(aVa, .inl (tt 0, 4, .inl q16.2))]]) H := zS_subP hp9 hP
        have hD9 : va_D A (zW [[(aT, .inr (12, [.ref aCol, .int vTa, .ref aFa, .ref aRu, .int vRc, .ref aRo, .ref aLa, .ref aVa]))], [(aCol, .inl (tt 0, 5, .inl vCol))], [(aRu, .inl (tt 5, 5, .inr (.inr (.inr (.inr (fun j => some (eRu j)))))))], (wA eRu (tt 0) 5 25 vRu), [(aRo, .inl (tt 6, 5, .inr (.inr (.inr (.inr (fun j => some (eRo j)))))))], (wA eRo (tt 2) 5 512 vRo), [(aVa, .inl (tt 0, 4, .inl q16.2))]]) := zS_subD hp9 hD
        refine lv_topi (fun y_82 ey_82 => ?_)
        rcases z_bool hF with ⟨eb, hF⟩ | ⟨eb, hF⟩
        · have ez := ey_82.trans eb
          subst ez
          have hR := Option.some.inj hF
          exact W.zret (v := (0 : Int32)) hx hb hr rfl (fun t ht hW => ⟨⟨(0 : Int32), (vRo, q16.2), rfl, (by subst hR; exact ⟨rfl, rfl⟩), by rw [ht]; exact hP9, va_K.moved hW.alike hK, hD9⟩, hS.F ht⟩) hS.2.2 dX13_applies_82
        · have ez := ey_82.trans eb
          subst ez
          have hR := Option.some.inj hF
          exact W.zret (v := (1 : Int32)) hx hb hr rfl (fun t ht hW => ⟨⟨(1 : Int32), (vRo, q16.2), rfl, (by subst hR; exact ⟨rfl, rfl⟩), by rw [ht]; exact hP9, va_K.moved hW.alike hK, hD9⟩, hS.F ht⟩) hS.2.2 dX13_applies_82
      · have hF := z_f c_19 hF
        refine lv_aload_n hx hb dX13_applies_22 rfl (lv_at hl 0 rfl) ?_
        refine lv_iload_n hx hb dX13_applies_23 rfl (lv_at hl 1 rfl) ?_
        obtain ⟨q24, hc_24, hF⟩ := z_bind hF
        have hp_24 : (zW [[(aCol, .inl (tt 0, 5, .inl vCol))], [(aRu, .inl (tt 5, 5, .inr (.inr (.inr (.inr (fun j => some (eRu j)))))))], (wA eRu (tt 0) 5 25 vRu), [(aRo, .inl (tt 6, 5, .inr (.inr (.inr (.inr (fun j => some (eRo j)))))))], (wA eRo (tt 2) 5 512 vRo), [(aT, .inr (12, [.ref aCol, .int vTa, .ref aFa, .ref aRu, .int vRc, .ref aRo, .ref aLa, .ref aVa]))], [(aVa, .inl (tt 0, 4, .inl q16.2))]]).Perm (zW [[(aT, .inr (12, [.ref aCol, .int vTa, .ref aFa, .ref aRu, .int vRc, .ref aRo, .ref aLa, .ref aVa]))], [(aCol, .inl (tt 0, 5, .inl vCol))], [(aRu, .inl (tt 5, 5, .inr (.inr (.inr (.inr (fun j => some (eRu j)))))))], (wA eRu (tt 0) 5 25 vRu), [(aRo, .inl (tt 6, 5, .inr (.inr (.inr (.inr (fun j => some (eRo j)))))))], (wA eRo (tt 2) 5 512 vRo), [(aVa, .inl (tt 0, 4, .inl q16.2))]] ++ zW []) := zS_cut (is := [5, 0, 1, 2, 3, 4, 6]) (js := []) 7 rfl rfl rfl (by decide)
        refine s_backi (s_goV (As := [.int p1]) (rest := []) (ci := 12) ⟨hx, hb, hml, hown, hts⟩ hK hN hX hO hAA hp_24 hP hD hS hA (oX13_gives l G tt sa hlt H.size K aT aCol aFa aRu aRo aLa aVa eRu eRo vTa vRc vCol vRu vRo q16.2 p1 q24 hc_24) (cwV 1 hts gX13_applies_X13_gives rfl rfl rfl (by decide +kernel) ⟨Nat.le_of_ble_eq_true rfl, Nat.le_of_ble_eq_true rfl⟩) rfl rfl rfl hl.1 rfl (Nat.le_of_ble_eq_true rfl) dX13_applies_24 ⟨Nat.le_of_ble_eq_true rfl, Nat.le_of_ble_eq_true rfl⟩) hp_24 hP hD hS hA (fun r_24 u H locs hw hP hD hS => ?_)
        replace hw := hw.symm; subst hw
        have hP : va_P G vwCl (zW [[(aT, .inr (12, [.ref aCol, .int vTa, .ref aFa, .ref aRu, .int vRc, .ref aRo, .ref aLa, .ref aVa]))], [(aCol, .inl (tt 0, 5, .inl vCol))], [(aRu, .inl (tt 5, 5, .inr (.inr (.inr (.inr (fun j => some (eRu j)))))))], (wA eRu (tt 0) 5 25 vRu), [(aRo, .inl (tt 6, 5, .inr (.inr (.inr (.inr (fun j => some (eRo j)))))))], (wA eRo (tt 2) 5 512 vRo), [(aVa, .inl (tt 0, 4, .inl q16.2))]]) H := hP
        have hD : va_D A (zW [[(aT, .inr (12, [.ref aCol, .int vTa, .ref aFa, .ref aRu, .int vRc, .ref aRo, .ref aLa, .ref aVa]))], [(aCol, .inl (tt 0, 5, .inl vCol))], [(aRu, .inl (tt 5, 5, .inr (.inr (.inr (.inr (fun j => some (eRu j)))))))], (wA eRu (tt 0) 5 25 vRu), [(aRo, .inl (tt 6, 5, .inr (.inr (.inr (.inr (fun j => some (eRo j)))))))], (wA eRo (tt 2) 5 512 vRo), [(aVa, .inl (tt 0, 4, .inl q16.2))]]) := hD
        refine lv_if_eq (tgt := 75) hx hb dX13_applies_27 (by decide) (fun c_27 => ?_) (fun c_27 => ?_)
        · have hF := z_t c_27 hF
          exact hb75 _ _ _ _ _ _ _ _ hF hP hD hS (lv_sub hl [0, 1, 2, 3, 4] rfl)
        · have hF := z_f c_27 hF
          refine lv_aload_n hx hb dX13_applies_30 rfl (lv_at hl 0 rfl) ?_
          refine lv_aload_n hx hb dX13_applies_31 rfl (lv_at hl 0 rfl) ?_
          obtain ⟨k_32, hk_32, hs_32⟩ := zS_one hP 0 rfl
          refine va_get (D := G) (ci := 12) (v := .ref aRu) (C := RX13) (T := TX13) (N := 8) hx hb hts hiX13 hown hK hP k_32 hk_32 rfl 3 (by decide) (hts (.fieldLink RX13 26 "LeapTablesLaw$Told" "rules" "[[I") (List.mem_of_getElem? (i := 1) rfl)) (fun _ h9 => h9) rfl dX13_applies_32 ?_
          refine lv_iload_n hx hb dX13_applies_35 rfl (lv_at hl 1 rfl) ?_
          obtain ⟨h_36, hF⟩ := z_in hF
          obtain ⟨k_36, hk_36, hs_36⟩ := zS_one hP 2 rfl
          refine zA_aald (f := eRu) hx hb hK hP k_36 5 hk_36 rfl h_36 dX13_applies_36 ?_
          refine lv_iconst (v := (0 : Int32)) hx hb dX13_applies_37 (by decide) ?_
          have hP := zP_perm (zS_pull (C := [[(aT, .inr (12, [.ref aCol, .int vTa, .ref aFa, .ref aRu, .int vRc, .ref aRo, .ref aLa, .ref aVa]))], [(aCol, .inl (tt 0, 5, .inl vCol))], [(aRu, .inl (tt 5, 5, .inr (.inr (.inr (.inr (fun j => some (eRu j)))))))], [(aRo, .inl (tt 6, 5, .inr (.inr (.inr (.inr (fun j => some (eRo j)))))))], (wA eRo (tt 2) 5 512 vRo), [(aVa, .inl (tt 0, 4, .inl q16.2))]]) (is := [0, 1, 2, 4, 5, 6]) 7 rfl 3 rfl (zlt_of h_36) rfl (by decide)) hP
          have hD := zD_perm (zS_pull (C := [[(aT, .inr (12, [.ref aCol, .int vTa, .ref aFa, .ref aRu, .int vRc, .ref aRo, .ref aLa, .ref aVa]))], [(aCol, .inl (tt 0, 5, .inl vCol))], [(aRu, .inl (tt 5, 5, .inr (.inr (.inr (.inr (fun j => some (eRu j)))))))], [(aRo, .inl (tt 6, 5, .inr (.inr (.inr (.inr (fun j => some (eRo j)))))))], (wA eRo (tt 2) 5 512 vRo), [(aVa, .inl (tt 0, 4, .inl q16.2))]]) (is := [0, 1, 2, 4, 5, 6]) 7 rfl 3 rfl (zlt_of h_36) rfl (by decide)) hD
          have hP : va_P G vwCl (zW [[(aT, .inr (12, [.ref aCol, .int vTa, .ref aFa, .ref aRu, .int vRc, .ref aRo, .ref aLa, .ref aVa]))], [(aCol, .inl (tt 0, 5, .inl vCol))], [(aRu, .inl (tt 5, 5, .inr (.inr (.inr (.inr (fun j => some (eRu j)))))))], [(aRo, .inl (tt 6, 5, .inr (.inr (.inr (.inr (fun j => some (eRo j)))))))], (wA eRo (tt 2) 5 512 vRo), [(aVa, .inl (tt 0, 4, .inl q16.2))], [((eRu p1.toNatClampNeg), .inl (tt 0, 25, .inl (vRu p1.toNatClampNeg)))], (wAx eRu (tt 0) 5 25 vRu p1.toNatClampNeg)]) H := hP
          have hD : va_D A (zW [[(aT, .inr (12, [.ref aCol, .int vTa, .ref aFa, .ref aRu, .int vRc, .ref aRo, .ref aLa, .ref aVa]))], [(aCol, .inl (tt 0, 5, .inl vCol))], [(aRu, .inl (tt 5, 5, .inr (.inr (.inr (.inr (fun j => some (eRu j)))))))], [(aRo, .inl (tt 6, 5, .inr (.inr (.inr (.inr (fun j => some (eRo j)))))))], (wA eRo (tt 2) 5 512 vRo), [(aVa, .inl (tt 0, 4, .inl q16.2))], [((eRu p1.toNatClampNeg), .inl (tt 0, 25, .inl (vRu p1.toNatClampNeg)))], (wAx eRu (tt 0) 5 25 vRu p1.toNatClampNeg)]) := hD
          obtain ⟨q38, hc_38, hF⟩ := z_bind hF
          have hp_38 : (zW [[(aT, .inr (12, [.ref aCol, .int vTa, .ref aFa, .ref aRu, .int vRc, .ref aRo, .ref aLa, .ref aVa]))], [(aCol, .inl (tt 0, 5, .inl vCol))], [(aRu, .inl (tt 5, 5, .inr (.inr (.inr (.inr (fun j => some (eRu j)))))))], [(aRo, .inl (tt 6, 5, .inr (.inr (.inr (.inr (fun j => some (eRo j)))))))], (wA eRo (tt 2) 5 512 vRo), [(aVa, .inl (tt 0, 4, .inl q16.2))], [((eRu p1.toNatClampNeg), .inl (tt 0, 25, .inl (vRu p1.toNatClampNeg)))], (wAx eRu (tt 0) 5 25 vRu p1.toNatClampNeg)]).Perm (zW [[(aT, .inr (12, [.ref aCol, .int vTa, .ref aFa, .ref aRu, .int vRc, .ref aRo, .ref aLa, .ref aVa]))], [(aCol, .inl (tt 0, 5, .inl vCol))], [(aRo, .inl (tt 6, 5, .inr (.inr (.inr (.inr (fun j => some (eRo j)))))))], (wA eRo (tt 2) 5 512 vRo), [(aVa, .inl (tt 0, 4, .inl q16.2))], [((eRu p1.toNatClampNeg), .inl (tt 0, 25, .inl (vRu p1.toNatClampNeg)))]] ++ zW [[(aRu, .inl (tt 5, 5, .inr (.inr (.inr (.inr (fun j => some (eRu j)))))))], (wAx eRu (tt 0) 5 25 vRu p1.toNatClampNeg)]) := zS_cut (is := [0, 1, 3, 4, 5, 6]) (js := [2, 7]) 8 rfl rfl rfl (by decide)
          refine s_backi (s_goV (As := [.ref (eRu p1.toNatClampNeg), .int (0 : Int32)]) (rest := []) (ci := 12) ⟨hx, hb, hml, hown, hts⟩ hK hN hX hO hAA hp_38 hP hD hS hA (oX13_fits l G tt sa hlt H.size K 25 aT aCol aFa aRu aRo aLa aVa eRo (eRu p1.toNatClampNeg) vTa vRc vCol vRo q16.2 (vRu p1.toNatClampNeg) (0 : Int32) q38 hc_38) (cwV 2 hts gX13_applies_X13_fits rfl rfl rfl (by decide +kernel) ⟨Nat.le_of_ble_eq_true rfl, Nat.le_of_ble_eq_true rfl⟩) rfl rfl rfl hl.1 rfl (Nat.le_of_ble_eq_true rfl) dX13_applies_38 ⟨Nat.le_of_ble_eq_true rfl, Nat.le_of_ble_eq_true rfl⟩) hp_38 hP hD hS hA (fun r_38 u H locs hw hP hD hS => ?_)
          replace hw := hw.symm; subst hw
          have hP : va_P G vwCl (zW [[(aRu, .inl (tt 5, 5, .inr (.inr (.inr (.inr (fun j => some (eRu j)))))))], (wAx eRu (tt 0) 5 25 vRu p1.toNatClampNeg), [(aT, .inr (12, [.ref aCol, .int vTa, .ref aFa, .ref aRu, .int vRc, .ref aRo, .ref aLa, .ref aVa]))], [(aCol, .inl (tt 0, 5, .inl vCol))], [(aRo, .inl (tt 6, 5, .inr (.inr (.inr (.inr (fun j => some (eRo j)))))))], (wA eRo (tt 2) 5 512 vRo), [(aVa, .inl (tt 0, 4, .inl q16.2))], [((eRu p1.toNatClampNeg), .inl (tt 0, 25, .inl (vRu p1.toNatClampNeg)))]]) H := hP
          have hD : va_D A (zW [[(aRu, .inl (tt 5, 5, .inr (.inr (.inr (.inr (fun j => some (eRu j)))))))], (wAx eRu (tt 0) 5 25 vRu p1.toNatClampNeg), [(aT, .inr (12, [.ref aCol, .int vTa, .ref aFa, .ref aRu, .int vRc, .ref aRo, .ref aLa, .ref aVa]))], [(aCol, .inl (tt 0, 5, .inl vCol))], [(aRo, .inl (tt 6, 5, .inr (.inr (.inr (.inr (fun j => some (eRo j)))))))], (wA eRo (tt 2) 5 512 vRo), [(aVa, .inl (tt 0, 4, .inl q16.2))], [((eRu p1.toNatClampNeg), .inl (tt 0, 25, .inl (vRu p1.toNatClampNeg)))]]) := hD
          have hP := zP_perm (zS_stay (C := [[(aRu, .inl (tt 5, 5, .inr (.inr (.inr (.inr (fun j => some (eRu j)))))))], [(aT, .inr (12, [.ref aCol, .int vTa, .ref aFa, .ref aRu, .int vRc, .ref aRo, .ref aLa, .ref aVa]))], [(aCol, .inl (tt 0, 5, .inl vCol))], [(aRo, .inl (tt 6, 5, .inr (.inr (.inr (.inr (fun j => some (eRo j)))))))], (wA eRo (tt 2) 5 512 vRo), [(aVa, .inl (tt 0, 4, .inl q16.2))]]) (is := [0, 2, 3, 4, 5, 6]) 8 rfl 7 1 rfl rfl (zlt_of h_36) rfl (by decide)) hP
          have hD := zD_perm (zS_stay (C := [[(aRu, .inl (tt 5, 5, .inr (.inr (.inr (.inr (fun j => some (eRu j)))))))], [(aT, .inr (12, [.ref aCol, .int vTa, .ref aFa, .ref aRu, .int vRc, .ref aRo, .ref aLa, .ref aVa]))], [(aCol, .inl (tt 0, 5, .inl vCol))], [(aRo, .inl (tt 6, 5, .inr (.inr (.inr (.inr (fun j => some (eRo j)))))))], (wA eRo (tt 2) 5 512 vRo), [(aVa, .inl (tt 0, 4, .inl q16.2))]]) (is := [0, 2, 3, 4, 5, 6]) 8 rfl 7 1 rfl rfl (zlt_of h_36) rfl (by decide)) hD
          have hP : va_P G vwCl (zW [[(aRu, .inl (tt 5, 5, .inr (.inr (.inr (.inr (fun j => some (eRu j)))))))], [(aT, .inr (12, [.ref aCol, .int vTa, .ref aFa, .ref aRu, .int vRc, .ref aRo, .ref aLa, .ref aVa]))], [(aCol, .inl (tt 0, 5, .inl vCol))], [(aRo, .inl (tt 6, 5, .inr (.inr (.inr (.inr (fun j => some (eRo j)))))))], (wA eRo (tt 2) 5 512 vRo), [(aVa, .inl (tt 0, 4, .inl q16.2))], (wA eRu (tt 0) 5 25 vRu)]) H := hP
          have hD : va_D A (zW [[(aRu, .inl (tt 5, 5, .inr (.inr (.inr (.inr (fun j => some (eRu j)))))))], [(aT, .inr (12, [.ref aCol, .int vTa, .ref aFa, .ref aRu, .int vRc, .ref aRo, .ref aLa, .ref aVa]))], [(aCol, .inl (tt 0, 5, .inl vCol))], [(aRo, .inl (tt 6, 5, .inr (.inr (.inr (.inr (fun j => some (eRo j)))))))], (wA eRo (tt 2) 5 512 vRo), [(aVa, .inl (tt 0, 4, .inl q16.2))], (wA eRu (tt 0) 5 25 vRu)]) := hD
          refine lv_if_eq (tgt := 47) hx hb dX13_applies_41 (by decide) (fun c_41 => ?_) (fun c_41 => ?_)
          · have hF := z_t c_41 hF
            refine lv_aload_n hx hb dX13_applies_47 rfl (lv_at hl 0 rfl) ?_
            obtain ⟨k_48, hk_48, hs_48⟩ := zS_one hP 1 rfl
            refine va_get (D := G) (ci := 12) (v := .ref aRo) (C := RX13) (T := TX13) (N := 8) hx hb hts hiX13 hown hK hP k_48 hk_48 rfl 5 (by decide) (hts (.fieldLink RX13 29 "LeapTablesLaw$Told" "rows" "[[Z") (List.mem_of_getElem? (i := 2) rfl)) (fun _ h9 => h9) rfl dX13_applies_48 ?_
            refine lv_aload_n hx hb dX13_applies_51 rfl (lv_at hl 0 rfl) ?_
            obtain ⟨k_52, hk_52, hs_52⟩ := zS_one hP 1 rfl
            refine va_get (D := G) (ci := 12) (v := .ref aRu) (C := RX13) (T := TX13) (N := 8) hx hb hts hiX13 hown hK hP k_52 hk_52 rfl 3 (by decide) (hts (.fieldLink RX13 26 "LeapTablesLaw$Told" "rules" "[[I") (List.mem_of_getElem? (i := 1) rfl)) (fun _ h9 => h9) rfl dX13_applies_52 ?_
            refine lv_iload_n hx hb dX13_applies_55 rfl (lv_at hl 1 rfl) ?_
            obtain ⟨h_56, hF⟩ := z_in hF
            obtain ⟨k_56, hk_56, hs_56⟩ := zS_one hP 0 rfl
            refine zA_aald (f := eRu) hx hb hK hP k_56 5 hk_56 rfl h_56 dX13_applies_56 ?_
            refine lv_iconst (v := (0 : Int32)) hx hb dX13_applies_57 (by decide) ?_
            obtain ⟨h_58, hF⟩ := z_in hF
            obtain ⟨k_58, hk_58, hs_58⟩ := zS_fam hP 6 rfl (zlt_of h_36)
            refine va_iald hx hb hK hP k_58 0 hk_58 rfl h_58 dX13_applies_58 ?_
            obtain ⟨h_59, hF⟩ := z_in hF
            obtain ⟨k_59, hk_59, hs_59⟩ := zS_one hP 3 rfl
            refine zA_aald (f := eRo) hx hb hK hP k_59 6 hk_59 rfl h_59 dX13_applies_59 ?_
            refine lv_aload_n hx hb dX13_applies_60 rfl (lv_at hl 0 rfl) ?_
            refine lv_aload_n hx hb dX13_applies_61 rfl (lv_at hl 0 rfl) ?_
            obtain ⟨k_62, hk_62, hs_62⟩ := zS_one hP 1 rfl
            refine va_get (D := G) (ci := 12) (v := .ref aRu) (C := RX13) (T := TX13) (N := 8) hx hb hts hiX13 hown hK hP k_62 hk_62 rfl 3 (by decide) (hts (.fieldLink RX13 26 "LeapTablesLaw$Told" "rules" "[[I") (List.mem_of_getElem? (i := 1) rfl)) (fun _ h9 => h9) rfl dX13_applies_62 ?_
            refine lv_iload_n hx hb dX13_applies_65 rfl (lv_at hl 1 rfl) ?_
            obtain ⟨h_66, hF⟩ := z_in hF
            obtain ⟨k_66, hk_66, hs_66⟩ := zS_one hP 0 rfl
            refine zA_aald (f := eRu) hx hb hK hP k_66 5 hk_66 rfl h_66 dX13_applies_66 ?_
            refine lv_iconst (v := (0 : Int32)) hx hb dX13_applies_67 (by decide) ?_
            have hP := zP_perm (zS_pull (C := [[(aRu, .inl (tt 5, 5, .inr (.inr (.inr (.inr (fun j => some (eRu j)))))))], [(aT, .inr (12, [.ref aCol, .int vTa, .ref aFa, .ref aRu, .int vRc, .ref aRo, .ref aLa, .ref aVa]))], [(aCol, .inl (tt 0, 5, .inl vCol))], [(aRo, .inl (tt 6, 5, .inr (.inr (.inr (.inr (fun j => some (eRo j)))))))], (wA eRo (tt 2) 5 512 vRo), [(aVa, .inl (tt 0, 4, .inl q16.2))]]) (is := [0, 1, 2, 3, 4, 5]) 7 rfl 6 rfl (zlt_of h_36) rfl (by decide)) hP
            have hD := zD_perm (zS_pull (C := [[(aRu, .inl (tt 5, 5, .inr (.inr (.inr (.inr (fun j => some (eRu j)))))))], [(aT, .inr (12, [.ref aCol, .int vTa, .ref aFa, .ref aRu, .int vRc, .ref aRo, .ref aLa, .ref aVa]))], [(aCol, .inl (tt 0, 5, .inl vCol))], [(aRo, .inl (tt 6, 5, .inr (.inr (.inr (.inr (fun j => some (eRo j)))))))], (wA eRo (tt 2) 5 512 vRo), [(aVa, .inl (tt 0, 4, .inl q16.2))]]) (is := [0, 1, 2, 3, 4, 5]) 7 rfl 6 rfl (zlt_of h_36) rfl (by decide)) hD
            have hP : va_P G vwCl (zW [[(aRu, .inl (tt 5, 5, .inr (.inr (.inr (.inr (fun j => some (eRu j)))))))], [(aT, .inr (12, [.ref aCol, .int vTa, .ref aFa, .ref aRu, .int vRc, .ref aRo, .ref aLa, .ref aVa]))], [(aCol, .inl (tt 0, 5, .inl vCol))], [(aRo, .inl (tt 6, 5, .inr (.inr (.inr (.inr (fun j => some (eRo j)))))))], (wA eRo (tt 2) 5 512 vRo), [(aVa, .inl (tt 0, 4, .inl q16.2))], [((eRu p1.toNatClampNeg), .inl (tt 0, 25, .inl (vRu p1.toNatClampNeg)))], (wAx eRu (tt 0) 5 25 vRu p1.toNatClampNeg)]) H := hP
            have hD : va_D A (zW [[(aRu, .inl (tt 5, 5, .inr (.inr (.inr (.inr (fun j => some (eRu j)))))))], [(aT, .inr (12, [.ref aCol, .int vTa, .ref aFa, .ref aRu, .int vRc, .ref aRo, .ref aLa, .ref aVa]))], [(aCol, .inl (tt 0, 5, .inl vCol))], [(aRo, .inl (tt 6, 5, .inr (.inr (.inr (.inr (fun j => some (eRo j)))))))], (wA eRo (tt 2) 5 512 vRo), [(aVa, .inl (tt 0, 4, .inl q16.2))], [((eRu p1.toNatClampNeg), .inl (tt 0, 25, .inl (vRu p1.toNatClampNeg)))], (wAx eRu (tt 0) 5 25 vRu p1.toNatClampNeg)]) := hD
            obtain ⟨q68, hc_68, hF⟩ := z_bind hF
            have hp_68 : (zW [[(aRu, .inl (tt 5, 5, .inr (.inr (.inr (.inr (fun j => some (eRu j)))))))], [(aT, .inr (12, [.ref aCol, .int vTa, .ref aFa, .ref aRu, .int vRc, .ref aRo, .ref aLa, .ref aVa]))], [(aCol, .inl (tt 0, 5, .inl vCol))], [(aRo, .inl (tt 6, 5, .inr (.inr (.inr (.inr (fun j => some (eRo j)))))))], (wA eRo (tt 2) 5 512 vRo), [(aVa, .inl (tt 0, 4, .inl q16.2))], [((eRu p1.toNatClampNeg), .inl (tt 0, 25, .inl (vRu p1.toNatClampNeg)))], (wAx eRu (tt 0) 5 25 vRu p1.toNatClampNeg)]).Perm (zW [[(aT, .inr (12, [.ref aCol, .int vTa, .ref aFa, .ref aRu, .int vRc, .ref aRo, .ref aLa, .ref aVa]))], [(aCol, .inl (tt 0, 5, .inl vCol))], [(aVa, .inl (tt 0, 4, .inl q16.2))], [((eRu p1.toNatClampNeg), .inl (tt 0, 25, .inl (vRu p1.toNatClampNeg)))]] ++ zW [[(aRu, .inl (tt 5, 5, .inr (.inr (.inr (.inr (fun j => some (eRu j)))))))], [(aRo, .inl (tt 6, 5, .inr (.inr (.inr (.inr (fun j => some (eRo j)))))))], (wA eRo (tt 2) 5 512 vRo), (wAx eRu (tt 0) 5 25 vRu p1.toNatClampNeg)]) := zS_cut (is := [1, 2, 5, 6]) (js := [0, 3, 4, 7]) 8 rfl rfl rfl (by decide)
            refine s_backi (s_goV (As := [.ref (eRu p1.toNatClampNeg), .int (0 : Int32)]) (rest := [.ref (eRo (((vRu p1.toNatClampNeg) (0 : Int32).toNatClampNeg).toNatClampNeg))]) (ci := 12) ⟨hx, hb, hml, hown, hts⟩ hK hN hX hO hAA hp_68 hP hD hS hA (oX13_codeBy l G tt sa hlt H.size K 25 aT aCol aFa aRu aRo aLa aVa (eRu p1.toNatClampNeg) vTa vRc vCol q16.2 (vRu p1.toNatClampNeg) (0 : Int32) q68 hc_68) (cwV 2 hts gX13_applies_X13_codeBy rfl rfl rfl (by decide +kernel) ⟨Nat.le_of_ble_eq_true rfl, Nat.le_of_ble_eq_true rfl⟩) rfl rfl rfl hl.1 rfl (Nat.le_of_ble_eq_true rfl) dX13_applies_68 ⟨Nat.le_of_ble_eq_true rfl, Nat.le_of_ble_eq_true rfl⟩) hp_68 hP hD hS hA (fun r_68 u H locs hw hP hD hS => ?_)
            replace hw := hw.symm; subst hw
            have hP : va_P G vwCl (zW [[(aRu, .inl (tt 5, 5, .inr (.inr (.inr (.inr (fun j => some (eRu j)))))))], [(aRo, .inl (tt 6, 5, .inr (.inr (.inr (.inr (fun j => some (eRo j)))))))], (wA eRo (tt 2) 5 512 vRo), (wAx eRu (tt 0) 5 25 vRu p1.toNatClampNeg), [(aT, .inr (12, [.ref aCol, .int vTa, .ref aFa, .ref aRu, .int vRc, .ref aRo, .ref aLa, .ref aVa]))], [(aCol, .inl (tt 0, 5, .inl vCol))], [(aVa, .inl (tt 0, 4, .inl q16.2))], [((eRu p1.toNatClampNeg), .inl (tt 0, 25, .inl (vRu p1.toNatClampNeg)))]]) H := hP
            have hD : va_D A (zW [[(aRu, .inl (tt 5, 5, .inr (.inr (.inr (.inr (fun j => some (eRu j)))))))], [(aRo, .inl (tt 6, 5, .inr (.inr (.inr (.inr (fun j => some (eRo j)))))))], (wA eRo (tt 2) 5 512 vRo), (wAx eRu (tt 0) 5 25 vRu p1.toNatClampNeg), [(aT, .inr (12, [.ref aCol, .int vTa, .ref aFa, .ref aRu, .int vRc, .ref aRo, .ref aLa, .ref aVa]))], [(aCol, .inl (tt 0, 5, .inl vCol))], [(aVa, .inl (tt 0, 4, .inl q16.2))], [((eRu p1.toNatClampNeg), .inl (tt 0, 25, .inl (vRu p1.toNatClampNeg)))]]) := hD
            have hP := zP_perm (zS_stay (C := [[(aRu, .inl (tt 5, 5, .inr (.inr (.inr (.inr (fun j => some (eRu j)))))))], [(aRo, .inl (tt 6, 5, .inr (.inr (.inr (.inr (fun j => some (eRo j)))))))], (wA eRo (tt 2) 5 512 vRo), [(aT, .inr (12, [.ref aCol, .int vTa, .ref aFa, .ref aRu, .int vRc, .ref aRo, .ref aLa, .ref aVa]))], [(aCol, .inl (tt 0, 5, .inl vCol))], [(aVa, .inl (tt 0, 4, .inl q16.2))]]) (is := [0, 1, 2, 4, 5, 6]) 8 rfl 7 3 rfl rfl (zlt_of h_36) rfl (by decide)) hP
            have hD := zD_perm (zS_stay (C := [[(aRu, .inl (tt 5, 5, .inr (.inr (.inr (.inr (fun j => some (eRu j)))))))], [(aRo, .inl (tt 6, 5, .inr (.inr (.inr (.inr (fun j => some (eRo j)))))))], (wA eRo (tt 2) 5 512 vRo), [(aT, .inr (12, [.ref aCol, .int vTa, .ref aFa, .ref aRu, .int vRc, .ref aRo, .ref aLa, .ref aVa]))], [(aCol, .inl (tt 0, 5, .inl vCol))], [(aVa, .inl (tt 0, 4, .inl q16.2))]]) (is := [0, 1, 2, 4, 5, 6]) 8 rfl 7 3 rfl rfl (zlt_of h_36) rfl (by decide)) hD
            have hP : va_P G vwCl (zW [[(aRu, .inl (tt 5, 5, .inr (.inr (.inr (.inr (fun j => some (eRu j)))))))], [(aRo, .inl (tt 6, 5, .inr (.inr (.inr (.inr (fun j => some (eRo j)))))))], (wA eRo (tt 2) 5 512 vRo), [(aT, .inr (12, [.ref aCol, .int vTa, .ref aFa, .ref aRu, .int vRc, .ref aRo, .ref aLa, .ref aVa]))], [(aCol, .inl (tt 0, 5, .inl vCol))], [(aVa, .inl (tt 0, 4, .inl q16.2))], (wA eRu (tt 0) 5 25 vRu)]) H := hP
            have hD : va_D A (zW [[(aRu, .inl (tt 5, 5, .inr (.inr (.inr (.inr (fun j => some (eRu j)))))))], [(aRo, .inl (tt 6, 5, .inr (.inr (.inr (.inr (fun j => some (eRo j)))))))], (wA eRo (tt 2) 5 512 vRo), [(aT, .inr (12, [.ref aCol, .int vTa, .ref aFa, .ref aRu, .int vRc, .ref aRo, .ref aLa, .ref aVa]))], [(aCol, .inl (tt 0, 5, .inl vCol))], [(aVa, .inl (tt 0, 4, .inl q16.2))], (wA eRu (tt 0) 5 25 vRu)]) := hD
            refine lv_iconst (v := (1 : Int32)) hx hb dX13_applies_71 (by decide) ?_
            obtain ⟨h_72, hF⟩ := z_in hF
            obtain ⟨k_72, hk_72, hs_72⟩ := zS_fam hP 2 rfl (zlt_of h_59)
            refine va_zast hx hb hK hP hD hS k_72 2 hk_72 rfl h_72 dX13_applies_72 (fun H locs hP hD hS => ?_)
            rw [hs_72] at hP hD
            have hP : va_P G vwCl (zW [[(aRu, .inl (tt 5, 5, .inr (.inr (.inr (.inr (fun j => some (eRu j)))))))], [(aRo, .inl (tt 6, 5, .inr (.inr (.inr (.inr (fun j => some (eRo j)))))))], (wA eRo (tt 2) 5 512 (zup vRo (((vRu p1.toNatClampNeg) (0 : Int32).toNatClampNeg).toNatClampNeg) (upd (vRo (((vRu p1.toNatClampNeg) (0 : Int32).toNatClampNeg).toNatClampNeg)) q68.toNatClampNeg ((1 : Int32) &&& 1)))), [(aT, .inr (12, [.ref aCol, .int vTa, .ref aFa, .ref aRu, .int vRc, .ref aRo, .ref aLa, .ref aVa]))], [(aCol, .inl (tt 0, 5, .inl vCol))], [(aVa, .inl (tt 0, 4, .inl q16.2))], (wA eRu (tt 0) 5 25 vRu)]) H := hP
            have hD : va_D A (zW [[(aRu, .inl (tt 5, 5, .inr (.inr (.inr (.inr (fun j => some (eRu j)))))))], [(aRo, .inl (tt 6, 5, .inr (.inr (.inr (.inr (fun j => some (eRo j)))))))], (wA eRo (tt 2) 5 512 (zup vRo (((vRu p1.toNatClampNeg) (0 : Int32).toNatClampNeg).toNatClampNeg) (upd (vRo (((vRu p1.toNatClampNeg) (0 : Int32).toNatClampNeg).toNatClampNeg)) q68.toNatClampNeg ((1 : Int32) &&& 1)))), [(aT, .inr (12, [.ref aCol, .int vTa, .ref aFa, .ref aRu, .int vRc, .ref aRo, .ref aLa, .ref aVa]))], [(aCol, .inl (tt 0, 5, .inl vCol))], [(aVa, .inl (tt 0, 4, .inl q16.2))], (wA eRu (tt 0) 5 25 vRu)]) := hD
            refine lv_iconst (v := (1 : Int32)) hx hb dX13_applies_73 (by decide) ?_
            refine lv_istore_n (lv' := [(3, .int (1 : Int32)), (0, .ref aT), (1, .int p1), (2, .int x2), (4, .int x4)]) hx hb dX13_applies_74 rfl hl (by decide) rfl (fun ls hl => ?_)
            have hpj : (zW [[(aRu, .inl (tt 5, 5, .inr (.inr (.inr (.inr (fun j => some (eRu j)))))))], [(aRo, .inl (tt 6, 5, .inr (.inr (.inr (.inr (fun j => some (eRo j)))))))], (wA eRo (tt 2) 5 512 (zup vRo (((vRu p1.toNatClampNeg) (0 : Int32).toNatClampNeg).toNatClampNeg) (upd (vRo (((vRu p1.toNatClampNeg) (0 : Int32).toNatClampNeg).toNatClampNeg)) q68.toNatClampNeg ((1 : Int32) &&& 1)))), [(aT, .inr (12, [.ref aCol, .int vTa, .ref aFa, .ref aRu, .int vRc, .ref aRo, .ref aLa, .ref aVa]))], [(aCol, .inl (tt 0, 5, .inl vCol))], [(aVa, .inl (tt 0, 4, .inl q16.2))], (wA eRu (tt 0) 5 25 vRu)]).Perm (zW [[(aT, .inr (12, [.ref aCol, .int vTa, .ref aFa, .ref aRu, .int vRc, .ref aRo, .ref aLa, .ref aVa]))], [(aCol, .inl (tt 0, 5, .inl vCol))], [(aRu, .inl (tt 5, 5, .inr (.inr (.inr (.inr (fun j => some (eRu j)))))))], (wA eRu (tt 0) 5 25 vRu), [(aRo, .inl (tt 6, 5, .inr (.inr (.inr (.inr (fun j => some (eRo j)))))))], (wA eRo (tt 2) 5 512 (zup vRo (((vRu p1.toNatClampNeg) (0 : Int32).toNatClampNeg).toNatClampNeg) (upd (vRo (((vRu p1.toNatClampNeg) (0 : Int32).toNatClampNeg).toNatClampNeg)) q68.toNatClampNeg ((1 : Int32) &&& 1)))), [(aVa, .inl (tt 0, 4, .inl q16.2))]] ++ zW []) := zS_cut (is := [3, 4, 0, 6, 1, 2, 5]) (js := []) 7 rfl rfl rfl (by decide)
            exact hb75 _ _ _ _ _ _ _ _ hF (zS_subP hpj hP) (zS_subD hpj hD) hS (lv_sub hl [1, 2, 3, 0, 4] rfl)
          · have hF := z_f c_41 hF
            refine lv_goto (tgt := 75) hx hb dX13_applies_44 (by decide) ?_
            have hpj : (zW [[(aRu, .inl (tt 5, 5, .inr (.inr (.inr (.inr (fun j => some (eRu j)))))))], [(aT, .inr (12, [.ref aCol, .int vTa, .ref aFa, .ref aRu, .int vRc, .ref aRo, .ref aLa, .ref aVa]))], [(aCol, .inl (tt 0, 5, .inl vCol))], [(aRo, .inl (tt 6, 5, .inr (.inr (.inr (.inr (fun j => some (eRo j)))))))], (wA eRo (tt 2) 5 512 vRo), [(aVa, .inl (tt 0, 4, .inl q16.2))], (wA eRu (tt 0) 5 25 vRu)]).Perm (zW [[(aT, .inr (12, [.ref aCol, .int vTa, .ref aFa, .ref aRu, .int vRc, .ref aRo, .ref aLa, .ref aVa]))], [(aCol, .inl (tt 0, 5, .inl vCol))], [(aRu, .inl (tt 5, 5, .inr (.inr (.inr (.inr (fun j => some (eRu j)))))))], (wA eRu (tt 0) 5 25 vRu), [(aRo, .inl (tt 6, 5, .inr (.inr (.inr (.inr (fun j => some (eRo j)))))))], (wA eRo (tt 2) 5 512 vRo), [(aVa, .inl (tt 0, 4, .inl q16.2))]] ++ zW []) := zS_cut (is := [1, 2, 0, 6, 3, 4, 5]) (js := []) 7 rfl rfl rfl (by decide)
            exact hb75 _ _ _ _ _ _ _ _ hF (zS_subP hpj hP) (zS_subD hpj hD) hS (lv_sub hl [0, 1, 2, 3, 4] rfl)
  obtain ⟨H, hHe⟩ : ∃ H : Heap, s.heap = H := ⟨_, rfl⟩
  have hS : va_S A s.heap H [] := by rw [← hHe]; exact va_S.rf
  rw [hHe] at hP ⊢
  unfold hX13_applies at hF
  refine lv_aload_n hx hb dX13_applies_0 rfl (lv_at hl 0 rfl) ?_
  refine lv_iload_n hx hb dX13_applies_1 rfl (lv_at hl 1 rfl) ?_
  refine lv_iconst (v := (0 : Int32)) hx hb dX13_applies_2 (by decide) ?_
  obtain ⟨q3, hc_3, hF⟩ := z_bind hF
  have hp_3 : (zW [[(aT, .inr (12, [.ref aCol, .int vTa, .ref aFa, .ref aRu, .int vRc, .ref aRo, .ref aLa, .ref aVa]))], [(aCol, .inl (tt 0, 5, .inl vCol))], [(aRu, .inl (tt 5, 5, .inr (.inr (.inr (.inr (fun j => some (eRu j)))))))], (wA eRu (tt 0) 5 25 vRu), [(aRo, .inl (tt 6, 5, .inr (.inr (.inr (.inr (fun j => some (eRo j)))))))], (wA eRo (tt 2) 5 512 vRo), [(aVa, .inl (tt 0, 4, .inl vVa))]]).Perm (zW [[(aT, .inr (12, [.ref aCol, .int vTa, .ref aFa, .ref aRu, .int vRc, .ref aRo, .ref aLa, .ref aVa]))], [(aCol, .inl (tt 0, 5, .inl vCol))], [(aRu, .inl (tt 5, 5, .inr (.inr (.inr (.inr (fun j => some (eRu j)))))))], (wA eRu (tt 0) 5 25 vRu)] ++ zW [[(aRo, .inl (tt 6, 5, .inr (.inr (.inr (.inr (fun j => some (eRo j)))))))], (wA eRo (tt 2) 5 512 vRo), [(aVa, .inl (tt 0, 4, .inl vVa))]]) := zS_cut (is := [0, 1, 2, 3]) (js := [4, 5, 6]) 7 rfl rfl rfl (by decide)
  refine s_backi (s_goV (As := [.int p1, .int (0 : Int32)]) (rest := []) (ci := 12) ⟨hx, hb, hml, hown, hts⟩ hK hN hX hO hAA hp_3 hP hD hS hA (oX13_variablesOf l G tt sa hlt H.size K aT aCol aFa aRu aRo aLa aVa eRu vTa vRc vCol vRu p1 (0 : Int32) q3 hc_3) (cwV 2 hts gX13_applies_X13_variablesOf rfl rfl rfl (by decide +kernel) ⟨Nat.le_of_ble_eq_true rfl, Nat.le_of_ble_eq_true rfl⟩) rfl rfl rfl hl.1 rfl (Nat.le_of_ble_eq_true rfl) dX13_applies_3 ⟨Nat.le_of_ble_eq_true rfl, Nat.le_of_ble_eq_true rfl⟩) hp_3 hP hD hS hA (fun r_3 u H locs hw hP hD hS => ?_)
  replace hw := hw.symm; subst hw
  have hP : va_P G vwCl (zW [[(aRo, .inl (tt 6, 5, .inr (.inr (.inr (.inr (fun j => some (eRo j)))))))], (wA eRo (tt 2) 5 512 vRo), [(aVa, .inl (tt 0, 4, .inl vVa))], [(aT, .inr (12, [.ref aCol, .int vTa, .ref aFa, .ref aRu, .int vRc, .ref aRo, .ref aLa, .ref aVa]))], [(aCol, .inl (tt 0, 5, .inl vCol))], [(aRu, .inl (tt 5, 5, .inr (.inr (.inr (.inr (fun j => some (eRu j)))))))], (wA eRu (tt 0) 5 25 vRu)]) H := hP
  have hD : va_D A (zW [[(aRo, .inl (tt 6, 5, .inr (.inr (.inr (.inr (fun j => some (eRo j)))))))], (wA eRo (tt 2) 5 512 vRo), [(aVa, .inl (tt 0, 4, .inl vVa))], [(aT, .inr (12, [.ref aCol, .int vTa, .ref aFa, .ref aRu, .int vRc, .ref aRo, .ref aLa, .ref aVa]))], [(aCol, .inl (tt 0, 5, .inl vCol))], [(aRu, .inl (tt 5, 5, .inr (.inr (.inr (.inr (fun j => some (eRu j)))))))], (wA eRu (tt 0) 5 25 vRu)]) := hD
  refine lv_istore_n (lv' := [(2, .int q3), (0, .ref aT), (1, .int p1)]) hx hb dX13_applies_6 rfl hl (by decide) rfl (fun ls hl => ?_)
  refine lv_iconst (v := (0 : Int32)) hx hb dX13_applies_7 (by decide) ?_
  refine lv_istore_n (lv' := [(3, .int (0 : Int32)), (2, .int q3), (0, .ref aT), (1, .int p1)]) hx hb dX13_applies_8 rfl hl (by decide) rfl (fun ls hl => ?_)
  refine lv_iconst (v := (0 : Int32)) hx hb dX13_applies_9 (by decide) ?_
  refine lv_istore (lv' := [(4, .int (0 : Int32)), (3, .int (0 : Int32)), (2, .int q3), (0, .ref aT), (1, .int p1)]) hx hb dX13_applies_10 hl (by decide) rfl (fun ls hl => ?_)
  have hpj : (zW [[(aRo, .inl (tt 6, 5, .inr (.inr (.inr (.inr (fun j => some (eRo j)))))))], (wA eRo (tt 2) 5 512 vRo), [(aVa, .inl (tt 0, 4, .inl vVa))], [(aT, .inr (12, [.ref aCol, .int vTa, .ref aFa, .ref aRu, .int vRc, .ref aRo, .ref aLa, .ref aVa]))], [(aCol, .inl (tt 0, 5, .inl vCol))], [(aRu, .inl (tt 5, 5, .inr (.inr (.inr (.inr (fun j => some (eRu j)))))))], (wA eRu (tt 0) 5 25 vRu)]).Perm (zW [[(aT, .inr (12, [.ref aCol, .int vTa, .ref aFa, .ref aRu, .int vRc, .ref aRo, .ref aLa, .ref aVa]))], [(aCol, .inl (tt 0, 5, .inl vCol))], [(aRu, .inl (tt 5, 5, .inr (.inr (.inr (.inr (fun j => some (eRu j)))))))], (wA eRu (tt 0) 5 25 vRu), [(aRo, .inl (tt 6, 5, .inr (.inr (.inr (.inr (fun j => some (eRo j)))))))], (wA eRo (tt 2) 5 512 vRo), [(aVa, .inl (tt 0, 4, .inl vVa))]] ++ zW []) := zS_cut (is := [3, 4, 5, 6, 0, 1, 2]) (js := []) 7 rfl rfl rfl (by decide)
  exact hb12 K _ _ _ _ _ _ _ _ hF (zS_subP hpj hP) (zS_subD hpj hD) hS (lv_sub hl [3, 4, 2, 1, 0] rfl)

set_option maxHeartbeats 8000000 in
set_option maxRecDepth 100000 in
theorem oX13_reasons (l : Launch) (G : va_G) (tt : Nat → ClassId) (sa : Nat → Nat) (hlt : l.stackTraces = false) (sz : Nat) (K : Nat) (aT : Nat) (aCol : Nat) (aFa : Nat) (aRu : Nat) (aRo : Nat) (aLa : Nat) (aVa : Nat) (eFa : Nat → Nat) (eRu : Nat → Nat) (eRo : Nat → Nat) (vTa : Int32) (vRc : Int32) (vCol : Nat → Int32) (vFa : Nat → Nat → Int32) (vRu : Nat → Nat → Int32) (vRo : Nat → Nat → Int32) (vVa : Nat → Int32) (p1 : Int32) (p2 : Int32) (RR : Int32 × (Nat → Int32)) (hF : hX13_reasons K vRc vCol vFa vRu vRo p1 p2 vVa = some RR) : Met l yX13_reasons wsX13_reasons ({ frames := 4, cells := 0, slots := 0, locals := 130 } : Room) (zPreQ G (zTy tt) sa [.ref aT, .int p1, .int p2] sz (zW [[(aT, .inr (12, [.ref aCol, .int vTa, .ref aFa, .ref aRu, .int vRc, .ref aRo, .ref aLa, .ref aVa]))], [(aCol, .inl (tt 0, 5, .inl vCol))], [(aFa, .inl (tt 6, 5, .inr (.inr (.inr (.inr (fun j => some (eFa j)))))))], (wA eFa (tt 2) 5 512 vFa), [(aRu, .inl (tt 5, 5, .inr (.inr (.inr (.inr (fun j => some (eRu j)))))))], (wA eRu (tt 0) 5 25 vRu), [(aRo, .inl (tt 6, 5, .inr (.inr (.inr (.inr (fun j => some (eRo j)))))))], (wA eRo (tt 2) 5 512 vRo), [(aVa, .inl (tt 0, 4, .inl vVa))]])) (va_Qi (fun (r : Int32) (u : (Nat → Int32)) => r = RR.1 ∧ u = RR.2) (zAt G (zTy tt) (va_A (zW [[(aT, .inr (12, [.ref aCol, .int vTa, .ref aFa, .ref aRu, .int vRc, .ref aRo, .ref aLa, .ref aVa]))], [(aCol, .inl (tt 0, 5, .inl vCol))], [(aFa, .inl (tt 6, 5, .inr (.inr (.inr (.inr (fun j => some (eFa j)))))))], (wA eFa (tt 2) 5 512 vFa), [(aRu, .inl (tt 5, 5, .inr (.inr (.inr (.inr (fun j => some (eRu j)))))))], (wA eRu (tt 0) 5 25 vRu), [(aRo, .inl (tt 6, 5, .inr (.inr (.inr (.inr (fun j => some (eRo j)))))))], (wA eRo (tt 2) 5 512 vRo), [(aVa, .inl (tt 0, 4, .inl vVa))]]) sz) (fun u : (Nat → Int32) => zW [[(aT, .inr (12, [.ref aCol, .int vTa, .ref aFa, .ref aRu, .int vRc, .ref aRo, .ref aLa, .ref aVa]))], [(aCol, .inl (tt 0, 5, .inl vCol))], [(aFa, .inl (tt 6, 5, .inr (.inr (.inr (.inr (fun j => some (eFa j)))))))], (wA eFa (tt 2) 5 512 vFa), [(aRu, .inl (tt 5, 5, .inr (.inr (.inr (.inr (fun j => some (eRu j)))))))], (wA eRu (tt 0) 5 25 vRu), [(aRo, .inl (tt 6, 5, .inr (.inr (.inr (.inr (fun j => some (eRo j)))))))], (wA eRo (tt 2) 5 512 vRo), [(aVa, .inl (tt 0, 4, .inl u))]])) (va_A (zW [[(aT, .inr (12, [.ref aCol, .int vTa, .ref aFa, .ref aRu, .int vRc, .ref aRo, .ref aLa, .ref aVa]))], [(aCol, .inl (tt 0, 5, .inl vCol))], [(aFa, .inl (tt 6, 5, .inr (.inr (.inr (.inr (fun j => some (eFa j)))))))], (wA eFa (tt 2) 5 512 vFa), [(aRu, .inl (tt 5, 5, .inr (.inr (.inr (.inr (fun j => some (eRu j)))))))], (wA eRu (tt 0) 5 25 vRu), [(aRo, .inl (tt 6, 5, .inr (.inr (.inr (.inr (fun j => some (eRo j)))))))], (wA eRo (tt 2) 5 512 vRo), [(aVa, .inl (tt 0, 4, .inl vVa))]]) sz)) 0 0 (va_A (zW [[(aT, .inr (12, [.ref aCol, .int vTa, .ref aFa, .ref aRu, .int vRc, .ref aRo, .ref aLa, .ref aVa]))], [(aCol, .inl (tt 0, 5, .inl vCol))], [(aFa, .inl (tt 6, 5, .inr (.inr (.inr (.inr (fun j => some (eFa j)))))))], (wA eFa (tt 2) 5 512 vFa), [(aRu, .inl (tt 5, 5, .inr (.inr (.inr (.inr (fun j => some (eRu j)))))))], (wA eRu (tt 0) 5 25 vRu), [(aRo, .inl (tt 6, 5, .inr (.inr (.inr (.inr (fun j => some (eRo j)))))))], (wA eRo (tt 2) 5 512 vRo), [(aVa, .inl (tt 0, 4, .inl vVa))]]) sz) := by
  refine Met.ofW (cc := cX13_reasons) (maxL := 7) (ret := (some .int)) (by decide +kernel) rfl ?_
  intro p e s m args below meth c s₁ B hml hv
  obtain ⟨rfl, hsz, hP, hK, hD0, hN, hX, hO, hAA⟩ := hv
  have hx := B.exec
  have hb := B.bytes
  have hr := B.returns
  have hts := atoms_spec (ws := wsX13_reasons) B.pre
  have hown : s.vm.findClass RX13 = some m.cls := findClass_of_methodNamed B.named
  have hlocks := B.notSynchronized
  subst hsz
  have hD := hD0.self (sz := s.heap.size)
  generalize hAe : va_A (zW [[(aT, .inr (12, [.ref aCol, .int vTa, .ref aFa, .ref aRu, .int vRc, .ref aRo, .ref aLa, .ref aVa]))], [(aCol, .inl (tt 0, 5, .inl vCol))], [(aFa, .inl (tt 6, 5, .inr (.inr (.inr (.inr (fun j => some (eFa j)))))))], (wA eFa (tt 2) 5 512 vFa), [(aRu, .inl (tt 5, 5, .inr (.inr (.inr (.inr (fun j => some (eRu j)))))))], (wA eRu (tt 0) 5 25 vRu), [(aRo, .inl (tt 6, 5, .inr (.inr (.inr (.inr (fun j => some (eRo j)))))))], (wA eRo (tt 2) 5 512 vRo), [(aVa, .inl (tt 0, 4, .inl vVa))]]) s.heap.size = A at hD hX ⊢
  have hA : ∀ q : Nat, s.heap.size ≤ q → A q := fun q h => by rw [← hAe]; exact Or.inr h
  have hP : va_P G vwCl (zW [[(aT, .inr (12, [.ref aCol, .int vTa, .ref aFa, .ref aRu, .int vRc, .ref aRo, .ref aLa, .ref aVa]))], [(aCol, .inl (tt 0, 5, .inl vCol))], [(aFa, .inl (tt 6, 5, .inr (.inr (.inr (.inr (fun j => some (eFa j)))))))], (wA eFa (tt 2) 5 512 vFa), [(aRu, .inl (tt 5, 5, .inr (.inr (.inr (.inr (fun j => some (eRu j)))))))], (wA eRu (tt 0) 5 25 vRu), [(aRo, .inl (tt 6, 5, .inr (.inr (.inr (.inr (fun j => some (eRo j)))))))], (wA eRo (tt 2) 5 512 vRo), [(aVa, .inl (tt 0, 4, .inl vVa))]]) s.heap := hP
  have hiX13 : ∀ w ∈ wsX130, w ∈ wsX13_reasons := by decide +kernel
  have hl := lv_entry ([.ref aT, .int p1, .int p2]) (n := 7) (Nat.le_of_ble_eq_true rfl)
  rw [lg_entry_eq]
  generalize (lg_sl ([.ref aT, .int p1, .int p2]) ++ List.replicate (7 - (lg_sl ([.ref aT, .int p1, .int p2])).length) Slot.unset).toArray = ls at hl ⊢
  have hl : lv_has ls 7 [(0, .ref aT), (1, .int p1), (2, .int p2)] := hl
  have hb20 : ∀ (k20 : Nat), ∀ (x3 : Int32) (x4 : Int32) (vVa : Nat → Int32)  (H : Heap) (locs : List Loc) (ls : Array Slot), hX13_reasons_20 K vRc vCol vFa vRu vRo p1 p2 k20 x3 x4 vVa = some RR → va_P G vwCl (zW [[(aT, .inr (12, [.ref aCol, .int vTa, .ref aFa, .ref aRu, .int vRc, .ref aRo, .ref aLa, .ref aVa]))], [(aCol, .inl (tt 0, 5, .inl vCol))], [(aFa, .inl (tt 6, 5, .inr (.inr (.inr (.inr (fun j => some (eFa j)))))))], (wA eFa (tt 2) 5 512 vFa), [(aRu, .inl (tt 5, 5, .inr (.inr (.inr (.inr (fun j => some (eRu j)))))))], (wA eRu (tt 0) 5 25 vRu), [(aRo, .inl (tt 6, 5, .inr (.inr (.inr (.inr (fun j => some (eRo j)))))))], (wA eRo (tt 2) 5 512 vRo), [(aVa, .inl (tt 0, 4, .inl vVa))]]) H → va_D A (zW [[(aT, .inr (12, [.ref aCol, .int vTa, .ref aFa, .ref aRu, .int vRc, .ref aRo, .ref aLa, .ref aVa]))], [(aCol, .inl (tt 0, 5, .inl vCol))], [(aFa, .inl (tt 6, 5, .inr (.inr (.inr (.inr (fun j => some (eFa j)))))))], (wA eFa (tt 2) 5 512 vFa), [(aRu, .inl (tt 5, 5, .inr (.inr (.inr (.inr (fun j => some (eRu j)))))))], (wA eRu (tt 0) 5 25 vRu), [(aRo, .inl (tt 6, 5, .inr (.inr (.inr (.inr (fun j => some (eRo j)))))))], (wA eRo (tt 2) 5 512 vRo), [(aVa, .inl (tt 0, 4, .inl vVa))]]) → va_S A s.heap H locs → lv_has ls 7 [(0, .ref aT), (1, .int p1), (2, .int p2), (3, .int x3), (4, .int x4)] → W p l e (headSpec wsX13_reasons ({ frames := 4, cells := 0, slots := 0, locals := 130 } : Room)).room s m ([.ref aT, .int p1, .int p2] : List Value).toArray below meth c H locs 0 0 (MQ below (va_Qi (fun (r : Int32) (u : (Nat → Int32)) => r = RR.1 ∧ u = RR.2) (zAt G (zTy tt) A (fun u : (Nat → Int32) => zW [[(aT, .inr (12, [.ref aCol, .int vTa, .ref aFa, .ref aRu, .int vRc, .ref aRo, .ref aLa, .ref aVa]))], [(aCol, .inl (tt 0, 5, .inl vCol))], [(aFa, .inl (tt 6, 5, .inr (.inr (.inr (.inr (fun j => some (eFa j)))))))], (wA eFa (tt 2) 5 512 vFa), [(aRu, .inl (tt 5, 5, .inr (.inr (.inr (.inr (fun j => some (eRu j)))))))], (wA eRu (tt 0) 5 25 vRu), [(aRo, .inl (tt 6, 5, .inr (.inr (.inr (.inr (fun j => some (eRo j)))))))], (wA eRo (tt 2) 5 512 vRo), [(aVa, .inl (tt 0, 4, .inl u))]])) A) ([.ref aT, .int p1, .int p2] : List Value).toArray s 0 0 A) (F0 m 20 ls []) := by
    intro k20
    induction k20 with
    | zero => intro x3 x4 vVa H locs ls hF; rw [hX13_reasons_20] at hF; cases hF
    | succ k20 ih20 =>
      have hb116 : ∀ (x3 : Int32) (x4 : Int32) (vVa : Nat → Int32)  (H : Heap) (locs : List Loc) (ls : Array Slot), hX13_reasons_116 K vRc vCol vFa vRu vRo p1 p2 (hX13_reasons_20 K vRc vCol vFa vRu vRo p1 p2 k20) x3 x4 vVa = some RR → va_P G vwCl (zW [[(aT, .inr (12, [.ref aCol, .int vTa, .ref aFa, .ref aRu, .int vRc, .ref aRo, .ref aLa, .ref aVa]))], [(aCol, .inl (tt 0, 5, .inl vCol))], [(aFa, .inl (tt 6, 5, .inr (.inr (.inr (.inr (fun j => some (eFa j)))))))], (wA eFa (tt 2) 5 512 vFa), [(aRu, .inl (tt 5, 5, .inr (.inr (.inr (.inr (fun j => some (eRu j)))))))], (wA eRu (tt 0) 5 25 vRu), [(aRo, .inl (tt 6, 5, .inr (.inr (.inr (.inr (fun j => some (eRo j)))))))], (wA eRo (tt 2) 5 512 vRo), [(aVa, .inl (tt 0, 4, .inl vVa))]]) H → va_D A (zW [[(aT, .inr (12, [.ref aCol, .int vTa, .ref aFa, .ref aRu, .int vRc, .ref aRo, .ref aLa, .ref aVa]))], [(aCol, .inl (tt 0, 5, .inl vCol))], [(aFa, .inl (tt 6, 5, .inr (.inr (.inr (.inr (fun j => some (eFa j)))))))], (wA eFa (tt 2) 5 512 vFa), [(aRu, .inl (tt 5, 5, .inr (.inr (.inr (.inr (fun j => some (eRu j)))))))], (wA eRu (tt 0) 5 25 vRu), [(aRo, .inl (tt 6, 5, .inr (.inr (.inr (.inr (fun j => some (eRo j)))))))], (wA eRo (tt 2) 5 512 vRo), [(aVa, .inl (tt 0, 4, .inl vVa))]]) → va_S A s.heap H locs → lv_has ls 7 [(0, .ref aT), (1, .int p1), (2, .int p2), (3, .int x3), (4, .int x4)] → W p l e (headSpec wsX13_reasons ({ frames := 4, cells := 0, slots := 0, locals := 130 } : Room)).room s m ([.ref aT, .int p1, .int p2] : List Value).toArray below meth c H locs 0 0 (MQ below (va_Qi (fun (r : Int32) (u : (Nat → Int32)) => r = RR.1 ∧ u = RR.2) (zAt G (zTy tt) A (fun u : (Nat → Int32) => zW [[(aT, .inr (12, [.ref aCol, .int vTa, .ref aFa, .ref aRu, .int vRc, .ref aRo, .ref aLa, .ref aVa]))], [(aCol, .inl (tt 0, 5, .inl vCol))], [(aFa, .inl (tt 6, 5, .inr (.inr (.inr (.inr (fun j => some (eFa j)))))))], (wA eFa (tt 2) 5 512 vFa), [(aRu, .inl (tt 5, 5, .inr (.inr (.inr (.inr (fun j => some (eRu j)))))))], (wA eRu (tt 0) 5 25 vRu), [(aRo, .inl (tt 6, 5, .inr (.inr (.inr (.inr (fun j => some (eRo j)))))))], (wA eRo (tt 2) 5 512 vRo), [(aVa, .inl (tt 0, 4, .inl u))]])) A) ([.ref aT, .int p1, .int p2] : List Value).toArray s 0 0 A) (F0 m 116 ls []) := by
        intro x3 x4 vVa H locs ls hF hP hD hS hl
        unfold hX13_reasons_116 at hF
        refine lv_iinc (v := (x4 + (1 : Int32))) (lv' := [(4, .int (x4 + (1 : Int32))), (0, .ref aT), (1, .int p1), (2, .int p2), (3, .int x3)]) hx hb dX13_reasons_116 hl (k := 4) rfl rfl (by decide) rfl (fun ls hl => ?_)
        refine lv_goto (tgt := 20) hx hb dX13_reasons_119 (by decide) ?_
        exact ih20 _ _ _ _ _ _ hF hP hD hS (lv_sub hl [1, 2, 3, 4, 0] rfl)
      have hb66 : ∀ (k66 : Nat), ∀ (x3 : Int32) (x4 : Int32) (x5 : Int32) (x6 : Int32) (vVa : Nat → Int32)  (H : Heap) (locs : List Loc) (ls : Array Slot), hX13_reasons_66 K vRc vCol vFa vRu vRo p1 p2 (hX13_reasons_20 K vRc vCol vFa vRu vRo p1 p2 k20) k66 x3 x4 x5 x6 vVa = some RR → va_P G vwCl (zW [[(aT, .inr (12, [.ref aCol, .int vTa, .ref aFa, .ref aRu, .int vRc, .ref aRo, .ref aLa, .ref aVa]))], [(aCol, .inl (tt 0, 5, .inl vCol))], [(aFa, .inl (tt 6, 5, .inr (.inr (.inr (.inr (fun j => some (eFa j)))))))], (wA eFa (tt 2) 5 512 vFa), [(aRu, .inl (tt 5, 5, .inr (.inr (.inr (.inr (fun j => some (eRu j)))))))], (wA eRu (tt 0) 5 25 vRu), [(aRo, .inl (tt 6, 5, .inr (.inr (.inr (.inr (fun j => some (eRo j)))))))], (wA eRo (tt 2) 5 512 vRo), [(aVa, .inl (tt 0, 4, .inl vVa))]]) H → va_D A (zW [[(aT, .inr (12, [.ref aCol, .int vTa, .ref aFa, .ref aRu, .int vRc, .ref aRo, .ref aLa, .ref aVa]))], [(aCol, .inl (tt 0, 5, .inl vCol))], [(aFa, .inl (tt 6, 5, .inr (.inr (.inr (.inr (fun j => some (eFa j)))))))], (wA eFa (tt 2) 5 512 vFa), [(aRu, .inl (tt 5, 5, .inr (.inr (.inr (.inr (fun j => some (eRu j)))))))], (wA eRu (tt 0) 5 25 vRu), [(aRo, .inl (tt 6, 5, .inr (.inr (.inr (.inr (fun j => some (eRo j)))))))], (wA eRo (tt 2) 5 512 vRo), [(aVa, .inl (tt 0, 4, .inl vVa))]]) → va_S A s.heap H locs → lv_has ls 7 [(0, .ref aT), (1, .int p1), (2, .int p2), (3, .int x3), (4, .int x4), (5, .int x5), (6, .int x6)] → W p l e (headSpec wsX13_reasons ({ frames := 4, cells := 0, slots := 0, locals := 130 } : Room)).room s m ([.ref aT, .int p1, .int p2] : List Value).toArray below meth c H locs 0 0 (MQ below (va_Qi (fun (r : Int32) (u : (Nat → Int32)) => r = RR.1 ∧ u = RR.2) (zAt G (zTy tt) A (fun u : (Nat → Int32) => zW [[(aT, .inr (12, [.ref aCol, .int vTa, .ref aFa, .ref aRu, .int vRc, .ref aRo, .ref aLa, .ref aVa]))], [(aCol, .inl (tt 0, 5, .inl vCol))], [(aFa, .inl (tt 6, 5, .inr (.inr (.inr (.inr (fun j => some (eFa j)))))))], (wA eFa (tt 2) 5 512 vFa), [(aRu, .inl (tt 5, 5, .inr (.inr (.inr (.inr (fun j => some (eRu j)))))))], (wA eRu (tt 0) 5 25 vRu), [(aRo, .inl (tt 6, 5, .inr (.inr (.inr (.inr (fun j => some (eRo j)))))))], (wA eRo (tt 2) 5 512 vRo), [(aVa, .inl (tt 0, 4, .inl u))]])) A) ([.ref aT, .int p1, .int p2] : List Value).toArray s 0 0 A) (F0 m 66 ls []) := by
        intro k66
        induction k66 with
        | zero => intro x3 x4 x5 x6 vVa H locs ls hF; rw [hX13_reasons_66] at hF; cases hF
        | succ k66 ih66 =>
          have hb108 : ∀ (x4 : Int32) (x5 : Int32) (x6 : Int32) (t0 : Int32) (t1 : Int32) (vVa : Nat → Int32)  (H : Heap) (locs : List Loc) (ls : Array Slot), hX13_reasons_108 K vRc vCol vFa vRu vRo p1 p2 (hX13_reasons_20 K vRc vCol vFa vRu vRo p1 p2 k20) (hX13_reasons_66 K vRc vCol vFa vRu vRo p1 p2 (hX13_reasons_20 K vRc vCol vFa vRu vRo p1 p2 k20) k66) x4 x5 x6 t0 t1 vVa = some RR → va_P G vwCl (zW [[(aT, .inr (12, [.ref aCol, .int vTa, .ref aFa, .ref aRu, .int vRc, .ref aRo, .ref aLa, .ref aVa]))], [(aCol, .inl (tt 0, 5, .inl vCol))], [(aFa, .inl (tt 6, 5, .inr (.inr (.inr (.inr (fun j => some (eFa j)))))))], (wA eFa (tt 2) 5 512 vFa), [(aRu, .inl (tt 5, 5, .inr (.inr (.inr (.inr (fun j => some (eRu j)))))))], (wA eRu (tt 0) 5 25 vRu), [(aRo, .inl (tt 6, 5, .inr (.inr (.inr (.inr (fun j => some (eRo j)))))))], (wA eRo (tt 2) 5 512 vRo), [(aVa, .inl (tt 0, 4, .inl vVa))]]) H → va_D A (zW [[(aT, .inr (12, [.ref aCol, .int vTa, .ref aFa, .ref aRu, .int vRc, .ref aRo, .ref aLa, .ref aVa]))], [(aCol, .inl (tt 0, 5, .inl vCol))], [(aFa, .inl (tt 6, 5, .inr (.inr (.inr (.inr (fun j => some (eFa j)))))))], (wA eFa (tt 2) 5 512 vFa), [(aRu, .inl (tt 5, 5, .inr (.inr (.inr (.inr (fun j => some (eRu j)))))))], (wA eRu (tt 0) 5 25 vRu), [(aRo, .inl (tt 6, 5, .inr (.inr (.inr (.inr (fun j => some (eRo j)))))))], (wA eRo (tt 2) 5 512 vRo), [(aVa, .inl (tt 0, 4, .inl vVa))]]) → va_S A s.heap H locs → lv_has ls 7 [(0, .ref aT), (1, .int p1), (2, .int p2), (4, .int x4), (5, .int x5), (6, .int x6)] → W p l e (headSpec wsX13_reasons ({ frames := 4, cells := 0, slots := 0, locals := 130 } : Room)).room s m ([.ref aT, .int p1, .int p2] : List Value).toArray below meth c H locs 0 0 (MQ below (va_Qi (fun (r : Int32) (u : (Nat → Int32)) => r = RR.1 ∧ u = RR.2) (zAt G (zTy tt) A (fun u : (Nat → Int32) => zW [[(aT, .inr (12, [.ref aCol, .int vTa, .ref aFa, .ref aRu, .int vRc, .ref aRo, .ref aLa, .ref aVa]))], [(aCol, .inl (tt 0, 5, .inl vCol))], [(aFa, .inl (tt 6, 5, .inr (.inr (.inr (.inr (fun j => some (eFa j)))))))], (wA eFa (tt 2) 5 512 vFa), [(aRu, .inl (tt 5, 5, .inr (.inr (.inr (.inr (fun j => some (eRu j)))))))], (wA eRu (tt 0) 5 25 vRu), [(aRo, .inl (tt 6, 5, .inr (.inr (.inr (.inr (fun j => some (eRo j)))))))], (wA eRo (tt 2) 5 512 vRo), [(aVa, .inl (tt 0, 4, .inl u))]])) A) ([.ref aT, .int p1, .int p2] : List Value).toArray s 0 0 A) (F0 m 108 ls [.int t1, .int t0]) := by
            intro x4 x5 x6 t0 t1 vVa H locs ls hF hP hD hS hl
            unfold hX13_reasons_108 at hF
            refine lv_iadd hx hb dX13_reasons_108 ?_
            refine lv_istore_n (lv' := [(3, .int (t0 + t1)), (0, .ref aT), (1, .int p1), (2, .int p2), (4, .int x4), (5, .int x5), (6, .int x6)]) hx hb dX13_reasons_109 rfl hl (by decide) rfl (fun ls hl => ?_)
            refine lv_iinc (v := (x6 + (1 : Int32))) (lv' := [(6, .int (x6 + (1 : Int32))), (3, .int (t0 + t1)), (0, .ref aT), (1, .int p1), (2, .int p2), (4, .int x4), (5, .int x5)]) hx hb dX13_reasons_110 hl (k := 6) rfl rfl (by decide) rfl (fun ls hl => ?_)
            refine lv_goto (tgt := 66) hx hb dX13_reasons_113 (by decide) ?_
            exact ih66 _ _ _ _ _ _ _ _ hF hP hD hS (lv_sub hl [2, 3, 4, 1, 5, 6, 0] rfl)
          have hb107 : ∀ (x4 : Int32) (x5 : Int32) (x6 : Int32) (t0 : Int32) (vVa : Nat → Int32)  (H : Heap) (locs : List Loc) (ls : Array Slot), hX13_reasons_107 K vRc vCol vFa vRu vRo p1 p2 (hX13_reasons_20 K vRc vCol vFa vRu vRo p1 p2 k20) (hX13_reasons_66 K vRc vCol vFa vRu vRo p1 p2 (hX13_reasons_20 K vRc vCol vFa vRu vRo p1 p2 k20) k66) x4 x5 x6 t0 vVa = some RR → va_P G vwCl (zW [[(aT, .inr (12, [.ref aCol, .int vTa, .ref aFa, .ref aRu, .int vRc, .ref aRo, .ref aLa, .ref aVa]))], [(aCol, .inl (tt 0, 5, .inl vCol))], [(aFa, .inl (tt 6, 5, .inr (.inr (.inr (.inr (fun j => some (eFa j)))))))], (wA eFa (tt 2) 5 512 vFa), [(aRu, .inl (tt 5, 5, .inr (.inr (.inr (.inr (fun j => some (eRu j)))))))], (wA eRu (tt 0) 5 25 vRu), [(aRo, .inl (tt 6, 5, .inr (.inr (.inr (.inr (fun j => some (eRo j)))))))], (wA eRo (tt 2) 5 512 vRo), [(aVa, .inl (tt 0, 4, .inl vVa))]]) H → va_D A (zW [[(aT, .inr (12, [.ref aCol, .int vTa, .ref aFa, .ref aRu, .int vRc, .ref aRo, .ref aLa, .ref aVa]))], [(aCol, .inl (tt 0, 5, .inl vCol))], [(aFa, .inl (tt 6, 5, .inr (.inr (.inr (.inr (fun j => some (eFa j)))))))], (wA eFa (tt 2) 5 512 vFa), [(aRu, .inl (tt 5, 5, .inr (.inr (.inr (.inr (fun j => some (eRu j)))))))], (wA eRu (tt 0) 5 25 vRu), [(aRo, .inl (tt 6, 5, .inr (.inr (.inr (.inr (fun j => some (eRo j)))))))], (wA eRo (tt 2) 5 512 vRo), [(aVa, .inl (tt 0, 4, .inl vVa))]]) → va_S A s.heap H locs → lv_has ls 7 [(0, .ref aT), (1, .int p1), (2, .int p2), (4, .int x4), (5, .int x5), (6, .int x6)] → W p l e (headSpec wsX13_reasons ({ frames := 4, cells := 0, slots := 0, locals := 130 } : Room)).room s m ([.ref aT, .int p1, .int p2] : List Value).toArray below meth c H locs 0 0 (MQ below (va_Qi (fun (r : Int32) (u : (Nat → Int32)) => r = RR.1 ∧ u = RR.2) (zAt G (zTy tt) A (fun u : (Nat → Int32) => zW [[(aT, .inr (12, [.ref aCol, .int vTa, .ref aFa, .ref aRu, .int vRc, .ref aRo, .ref aLa, .ref aVa]))], [(aCol, .inl (tt 0, 5, .inl vCol))], [(aFa, .inl (tt 6, 5, .inr (.inr (.inr (.inr (fun j => some (eFa j)))))))], (wA eFa (tt 2) 5 512 vFa), [(aRu, .inl (tt 5, 5, .inr (.inr (.inr (.inr (fun j => some (eRu j)))))))], (wA eRu (tt 0) 5 25 vRu), [(aRo, .inl (tt 6, 5, .inr (.inr (.inr (.inr (fun j => some (eRo j)))))))], (wA eRo (tt 2) 5 512 vRo), [(aVa, .inl (tt 0, 4, .inl u))]])) A) ([.ref aT, .int p1, .int p2] : List Value).toArray s 0 0 A) (F0 m 107 ls [.int t0]) := by
            intro x4 x5 x6 t0 vVa H locs ls hF hP hD hS hl
            unfold hX13_reasons_107 at hF
            refine lv_iconst (v := (0 : Int32)) hx hb dX13_reasons_107 (by decide) ?_
            exact hb108 _ _ _ _ _ _ _ _ _ hF hP hD hS (lv_sub hl [0, 1, 2, 3, 4, 5] rfl)
          intro x3 x4 x5 x6 vVa H locs ls hF hP hD hS hl
          rw [hX13_reasons_66] at hF
          refine lv_aload_n hx hb dX13_reasons_66 rfl (lv_at hl 0 rfl) ?_
          refine lv_iload hx hb dX13_reasons_67 (lv_at hl 5 rfl) ?_
          refine lv_iload hx hb dX13_reasons_69 (lv_at hl 6 rfl) ?_
          obtain ⟨q71, hc_71, hF⟩ := z_bind hF
          have hp_71 : (zW [[(aT, .inr (12, [.ref aCol, .int vTa, .ref aFa, .ref aRu, .int vRc, .ref aRo, .ref aLa, .ref aVa]))], [(aCol, .inl (tt 0, 5, .inl vCol))], [(aFa, .inl (tt 6, 5, .inr (.inr (.inr (.inr (fun j => some (eFa j)))))))], (wA eFa (tt 2) 5 512 vFa), [(aRu, .inl (tt 5, 5, .inr (.inr (.inr (.inr (fun j => some (eRu j)))))))], (wA eRu (tt 0) 5 25 vRu), [(aRo, .inl (tt 6, 5, .inr (.inr (.inr (.inr (fun j => some (eRo j)))))))], (wA eRo (tt 2) 5 512 vRo), [(aVa, .inl (tt 0, 4, .inl vVa))]]).Perm (zW [[(aT, .inr (12, [.ref aCol, .int vTa, .ref aFa, .ref aRu, .int vRc, .ref aRo, .ref aLa, .ref aVa]))], [(aVa, .inl (tt 0, 4, .inl vVa))]] ++ zW [[(aCol, .inl (tt 0, 5, .inl vCol))], [(aFa, .inl (tt 6, 5, .inr (.inr (.inr (.inr (fun j => some (eFa j)))))))], (wA eFa (tt 2) 5 512 vFa), [(aRu, .inl (tt 5, 5, .inr (.inr (.inr (.inr (fun j => some (eRu j)))))))], (wA eRu (tt 0) 5 25 vRu), [(aRo, .inl (tt 6, 5, .inr (.inr (.inr (.inr (fun j => some (eRo j)))))))], (wA eRo (tt 2) 5 512 vRo)]) := zS_cut (is := [0, 8]) (js := [1, 2, 3, 4, 5, 6, 7]) 9 rfl rfl rfl (by decide)
          refine s_backi (s_goV (As := [.int x5, .int x6]) (rest := []) (ci := 12) ⟨hx, hb, hml, hown, hts⟩ hK hN hX hO hAA hp_71 hP hD hS hA (oX13_chooses l G tt sa hlt H.size K aT aCol aFa aRu aRo aLa aVa vTa vRc vVa x5 x6 q71 hc_71) (cwV 2 hts gX13_reasons_X13_chooses rfl rfl rfl (by decide +kernel) ⟨Nat.le_of_ble_eq_true rfl, Nat.le_of_ble_eq_true rfl⟩) rfl rfl rfl hl.1 rfl (Nat.le_of_ble_eq_true rfl) dX13_reasons_71 ⟨Nat.le_of_ble_eq_true rfl, Nat.le_of_ble_eq_true rfl⟩) hp_71 hP hD hS hA (fun r_71 u H locs hw hP hD hS => ?_)
          obtain ⟨rfl, rfl⟩ := hw
          have hP : va_P G vwCl (zW [[(aCol, .inl (tt 0, 5, .inl vCol))], [(aFa, .inl (tt 6, 5, .inr (.inr (.inr (.inr (fun j => some (eFa j)))))))], (wA eFa (tt 2) 5 512 vFa), [(aRu, .inl (tt 5, 5, .inr (.inr (.inr (.inr (fun j => some (eRu j)))))))], (wA eRu (tt 0) 5 25 vRu), [(aRo, .inl (tt 6, 5, .inr (.inr (.inr (.inr (fun j => some (eRo j)))))))], (wA eRo (tt 2) 5 512 vRo), [(aT, .inr (12, [.ref aCol, .int vTa, .ref aFa, .ref aRu, .int vRc, .ref aRo, .ref aLa, .ref aVa]))], [(aVa, .inl (tt 0, 4, .inl q71.2))]]) H := hP
          have hD : va_D A (zW [[(aCol, .inl (tt 0, 5, .inl vCol))], [(aFa, .inl (tt 6, 5, .inr (.inr (.inr (.inr (fun j => some (eFa j)))))))], (wA eFa (tt 2) 5 512 vFa), [(aRu, .inl (tt 5, 5, .inr (.inr (.inr (.inr (fun j => some (eRu j)))))))], (wA eRu (tt 0) 5 25 vRu), [(aRo, .inl (tt 6, 5, .inr (.inr (.inr (.inr (fun j => some (eRo j)))))))], (wA eRo (tt 2) 5 512 vRo), [(aT, .inr (12, [.ref aCol, .int vTa, .ref aFa, .ref aRu, .int vRc, .ref aRo, .ref aLa, .ref aVa]))], [(aVa, .inl (tt 0, 4, .inl q71.2))]]) := hD
          refine lv_if_eq (tgt := 116) hx hb dX13_reasons_74 (by decide) (fun c_74 => ?_) (fun c_74 => ?_)
          · have hF := z_t c_74 hF
            have hpj : (zW [[(aCol, .inl (tt 0, 5, .inl vCol))], [(aFa, .inl (tt 6, 5, .inr (.inr (.inr (.inr (fun j => some (eFa j)))))))], (wA eFa (tt 2) 5 512 vFa), [(aRu, .inl (tt 5, 5, .inr (.inr (.inr (.inr (fun j => some (eRu j)))))))], (wA eRu (tt 0) 5 25 vRu), [(aRo, .inl (tt 6, 5, .inr (.inr (.inr (.inr (fun j => some (eRo j)))))))], (wA eRo (tt 2) 5 512 vRo), [(aT, .inr (12, [.ref aCol, .int vTa, .ref aFa, .ref aRu, .int vRc, .ref aRo, .ref aLa, .ref aVa]))], [(aVa, .inl (tt 0, 4, .inl q71.2))]]).Perm (zW [[(aT, .inr (12, [.ref aCol, .int vTa, .ref aFa, .ref aRu, .int vRc, .ref aRo, .ref aLa, .ref aVa]))], [(aCol, .inl (tt 0, 5, .inl vCol))], [(aFa, .inl (tt 6, 5, .inr (.inr (.inr (.inr (fun j => some (eFa j)))))))], (wA eFa (tt 2) 5 512 vFa), [(aRu, .inl (tt 5, 5, .inr (.inr (.inr (.inr (fun j => some (eRu j)))))))], (wA eRu (tt 0) 5 25 vRu), [(aRo, .inl (tt 6, 5, .inr (.inr (.inr (.inr (fun j => some (eRo j)))))))], (wA eRo (tt 2) 5 512 vRo), [(aVa, .inl (tt 0, 4, .inl q71.2))]] ++ zW []) := zS_cut (is := [7, 0, 1, 2, 3, 4, 5, 6, 8]) (js := []) 9 rfl rfl rfl (by decide)
            exact hb116 _ _ _ _ _ _ hF (zS_subP hpj hP) (zS_subD hpj hD) hS (lv_sub hl [0, 1, 2, 3, 4] rfl)
          · have hF := z_f c_74 hF
            refine lv_iload_n hx hb dX13_reasons_77 rfl (lv_at hl 3 rfl) ?_
            refine lv_aload_n hx hb dX13_reasons_78 rfl (lv_at hl 0 rfl) ?_
            refine lv_iload hx hb dX13_reasons_79 (lv_at hl 4 rfl) ?_
            obtain ⟨q81, hc_81, hF⟩ := z_bind hF
            have hp_81 : (zW [[(aCol, .inl (tt 0, 5, .inl vCol))], [(aFa, .inl (tt 6, 5, .inr (.inr (.inr (.inr (fun j => some (eFa j)))))))], (wA eFa (tt 2) 5 512 vFa), [(aRu, .inl (tt 5, 5, .inr (.inr (.inr (.inr (fun j => some (eRu j)))))))], (wA eRu (tt 0) 5 25 vRu), [(aRo, .inl (tt 6, 5, .inr (.inr (.inr (.inr (fun j => some (eRo j)))))))], (wA eRo (tt 2) 5 512 vRo), [(aT, .inr (12, [.ref aCol, .int vTa, .ref aFa, .ref aRu, .int vRc, .ref aRo, .ref aLa, .ref aVa]))], [(aVa, .inl (tt 0, 4, .inl q71.2))]]).Perm (zW [[(aT, .inr (12, [.ref aCol, .int vTa, .ref aFa, .ref aRu, .int vRc, .ref aRo, .ref aLa, .ref aVa]))], [(aCol, .inl (tt 0, 5, .inl vCol))], [(aRu, .inl (tt 5, 5, .inr (.inr (.inr (.inr (fun j => some (eRu j)))))))], (wA eRu (tt 0) 5 25 vRu), [(aRo, .inl (tt 6, 5, .inr (.inr (.inr (.inr (fun j => some (eRo j)))))))], (wA eRo (tt 2) 5 512 vRo), [(aVa, .inl (tt 0, 4, .inl q71.2))]] ++ zW [[(aFa, .inl (tt 6, 5, .inr (.inr (.inr (.inr (fun j => some (eFa j)))))))], (wA eFa (tt 2) 5 512 vFa)]) := zS_cut (is := [7, 0, 3, 4, 5, 6, 8]) (js := [1, 2]) 9 rfl rfl rfl (by decide)
            refine s_backi (s_goV (As := [.int x4]) (rest := [.int x3]) (ci := 12) ⟨hx, hb, hml, hown, hts⟩ hK hN hX hO hAA hp_81 hP hD hS hA (oX13_gives l G tt sa hlt H.size K aT aCol aFa aRu aRo aLa aVa eRu eRo vTa vRc vCol vRu vRo q71.2 x4 q81 hc_81) (cwV 1 hts gX13_reasons_X13_gives rfl rfl rfl (by decide +kernel) ⟨Nat.le_of_ble_eq_true rfl, Nat.le_of_ble_eq_true rfl⟩) rfl rfl rfl hl.1 rfl (Nat.le_of_ble_eq_true rfl) dX13_reasons_81 ⟨Nat.le_of_ble_eq_true rfl, Nat.le_of_ble_eq_true rfl⟩) hp_81 hP hD hS hA (fun r_81 u H locs hw hP hD hS => ?_)
            replace hw := hw.symm; subst hw
            have hP : va_P G vwCl (zW [[(aFa, .inl (tt 6, 5, .inr (.inr (.inr (.inr (fun j => some (eFa j)))))))], (wA eFa (tt 2) 5 512 vFa), [(aT, .inr (12, [.ref aCol, .int vTa, .ref aFa, .ref aRu, .int vRc, .ref aRo, .ref aLa, .ref aVa]))], [(aCol, .inl (tt 0, 5, .inl vCol))], [(aRu, .inl (tt 5, 5, .inr (.inr (.inr (.inr (fun j => some (eRu j)))))))], (wA eRu (tt 0) 5 25 vRu), [(aRo, .inl (tt 6, 5, .inr (.inr (.inr (.inr (fun j => some (eRo j)))))))], (wA eRo (tt 2) 5 512 vRo), [(aVa, .inl (tt 0, 4, .inl q71.2))]]) H := hP
            have hD : va_D A (zW [[(aFa, .inl (tt 6, 5, .inr (.inr (.inr (.inr (fun j => some (eFa j)))))))], (wA eFa (tt 2) 5 512 vFa), [(aT, .inr (12, [.ref aCol, .int vTa, .ref aFa, .ref aRu, .int vRc, .ref aRo, .ref aLa, .ref aVa]))], [(aCol, .inl (tt 0, 5, .inl vCol))], [(aRu, .inl (tt 5, 5, .inr (.inr (.inr (.inr (fun j => some (eRu j)))))))], (wA eRu (tt 0) 5 25 vRu), [(aRo, .inl (tt 6, 5, .inr (.inr (.inr (.inr (fun j => some (eRo j)))))))], (wA eRo (tt 2) 5 512 vRo), [(aVa, .inl (tt 0, 4, .inl q71.2))]]) := hD
            refine lv_if_eq (tgt := 107) hx hb dX13_reasons_84 (by decide) (fun c_84 => ?_) (fun c_84 => ?_)
            · have hF := z_t c_84 hF
              have hpj : (zW [[(aFa, .inl (tt 6, 5, .inr (.inr (.inr (.inr (fun j => some (eFa j)))))))], (wA eFa (tt 2) 5 512 vFa), [(aT, .inr (12, [.ref aCol, .int vTa, .ref aFa, .ref aRu, .int vRc, .ref aRo, .ref aLa, .ref aVa]))], [(aCol, .inl (tt 0, 5, .inl vCol))], [(aRu, .inl (tt 5, 5, .inr (.inr (.inr (.inr (fun j => some (eRu j)))))))], (wA eRu (tt 0) 5 25 vRu), [(aRo, .inl (tt 6, 5, .inr (.inr (.inr (.inr (fun j => some (eRo j)))))))], (wA eRo (tt 2) 5 512 vRo), [(aVa, .inl (tt 0, 4, .inl q71.2))]]).Perm (zW [[(aT, .inr (12, [.ref aCol, .int vTa, .ref aFa, .ref aRu, .int vRc, .ref aRo, .ref aLa, .ref aVa]))], [(aCol, .inl (tt 0, 5, .inl vCol))], [(aFa, .inl (tt 6, 5, .inr (.inr (.inr (.inr (fun j => some (eFa j)))))))], (wA eFa (tt 2) 5 512 vFa), [(aRu, .inl (tt 5, 5, .inr (.inr (.inr (.inr (fun j => some (eRu j)))))))], (wA eRu (tt 0) 5 25 vRu), [(aRo, .inl (tt 6, 5, .inr (.inr (.inr (.inr (fun j => some (eRo j)))))))], (wA eRo (tt 2) 5 512 vRo), [(aVa, .inl (tt 0, 4, .inl q71.2))]] ++ zW []) := zS_cut (is := [2, 3, 0, 1, 4, 5, 6, 7, 8]) (js := []) 9 rfl rfl rfl (by decide)
              exact hb107 _ _ _ _ _ _ _ _ hF (zS_subP hpj hP) (zS_subD hpj hD) hS (lv_sub hl [0, 1, 2, 4, 5, 6] rfl)
            · have hF := z_f c_84 hF
              refine lv_aload_n hx hb dX13_reasons_87 rfl (lv_at hl 0 rfl) ?_
              refine lv_aload_n hx hb dX13_reasons_88 rfl (lv_at hl 0 rfl) ?_
              obtain ⟨k_89, hk_89, hs_89⟩ := zS_one hP 2 rfl
              refine va_get (D := G) (ci := 12) (v := .ref aRu) (C := RX13) (T := TX13) (N := 8) hx hb hts hiX13 hown hK hP k_89 hk_89 rfl 3 (by decide) (hts (.fieldLink RX13 26 "LeapTablesLaw$Told" "rules" "[[I") (List.mem_of_getElem? (i := 3) rfl)) (fun _ h9 => h9) rfl dX13_reasons_89 ?_
              refine lv_iload hx hb dX13_reasons_92 (lv_at hl 4 rfl) ?_
              obtain ⟨h_94, hF⟩ := z_in hF
              obtain ⟨k_94, hk_94, hs_94⟩ := zS_one hP 4 rfl
              refine zA_aald (f := eRu) hx hb hK hP k_94 5 hk_94 rfl h_94 dX13_reasons_94 ?_
              refine lv_iconst (v := (0 : Int32)) hx hb dX13_reasons_95 (by decide) ?_
              have hP := zP_perm (zS_pull (C := [[(aFa, .inl (tt 6, 5, .inr (.inr (.inr (.inr (fun j => some (eFa j)))))))], (wA eFa (tt 2) 5 512 vFa), [(aT, .inr (12, [.ref aCol, .int vTa, .ref aFa, .ref aRu, .int vRc, .ref aRo, .ref aLa, .ref aVa]))], [(aCol, .inl (tt 0, 5, .inl vCol))], [(aRu, .inl (tt 5, 5, .inr (.inr (.inr (.inr (fun j => some (eRu j)))))))], [(aRo, .inl (tt 6, 5, .inr (.inr (.inr (.inr (fun j => some (eRo j)))))))], (wA eRo (tt 2) 5 512 vRo), [(aVa, .inl (tt 0, 4, .inl q71.2))]]) (is := [0, 1, 2, 3, 4, 6, 7, 8]) 9 rfl 5 rfl (zlt_of h_94) rfl (by decide)) hP
              have hD := zD_perm (zS_pull (C := [[(aFa, .inl (tt 6, 5, .inr (.inr (.inr (.inr (fun j => some (eFa j)))))))], (wA eFa (tt 2) 5 512 vFa), [(aT, .inr (12, [.ref aCol, .int vTa, .ref aFa, .ref aRu, .int vRc, .ref aRo, .ref aLa, .ref aVa]))], [(aCol, .inl (tt 0, 5, .inl vCol))], [(aRu, .inl (tt 5, 5, .inr (.inr (.inr (.inr (fun j => some (eRu j)))))))], [(aRo, .inl (tt 6, 5, .inr (.inr (.inr (.inr (fun j => some (eRo j)))))))], (wA eRo (tt 2) 5 512 vRo), [(aVa, .inl (tt 0, 4, .inl q71.2))]]) (is := [0, 1, 2, 3, 4, 6, 7, 8]) 9 rfl 5 rfl (zlt_of h_94) rfl (by decide)) hD
              have hP : va_P G vwCl (zW [[(aFa, .inl (tt 6, 5, .inr (.inr (.inr (.inr (fun j => some (eFa j)))))))], (wA eFa (tt 2) 5 512 vFa), [(aT, .inr (12, [.ref aCol, .int vTa, .ref aFa, .ref aRu, .int vRc, .ref aRo, .ref aLa, .ref aVa]))], [(aCol, .inl (tt 0, 5, .inl vCol))], [(aRu, .inl (tt 5, 5, .inr (.inr (.inr (.inr (fun j => some (eRu j)))))))], [(aRo, .inl (tt 6, 5, .inr (.inr (.inr (.inr (fun j => some (eRo j)))))))], (wA eRo (tt 2) 5 512 vRo), [(aVa, .inl (tt 0, 4, .inl q71.2))], [((eRu x4.toNatClampNeg), .inl (tt 0, 25, .inl (vRu x4.toNatClampNeg)))], (wAx eRu (tt 0) 5 25 vRu x4.toNatClampNeg)]) H := hP
              have hD : va_D A (zW [[(aFa, .inl (tt 6, 5, .inr (.inr (.inr (.inr (fun j => some (eFa j)))))))], (wA eFa (tt 2) 5 512 vFa), [(aT, .inr (12, [.ref aCol, .int vTa, .ref aFa, .ref aRu, .int vRc, .ref aRo, .ref aLa, .ref aVa]))], [(aCol, .inl (tt 0, 5, .inl vCol))], [(aRu, .inl (tt 5, 5, .inr (.inr (.inr (.inr (fun j => some (eRu j)))))))], [(aRo, .inl (tt 6, 5, .inr (.inr (.inr (.inr (fun j => some (eRo j)))))))], (wA eRo (tt 2) 5 512 vRo), [(aVa, .inl (tt 0, 4, .inl q71.2))], [((eRu x4.toNatClampNeg), .inl (tt 0, 25, .inl (vRu x4.toNatClampNeg)))], (wAx eRu (tt 0) 5 25 vRu x4.toNatClampNeg)]) := hD
              obtain ⟨q96, hc_96, hF⟩ := z_bind hF
              have hp_96 : (zW [[(aFa, .inl (tt 6, 5, .inr (.inr (.inr (.inr (fun j => some (eFa j)))))))], (wA eFa (tt 2) 5 512 vFa), [(aT, .inr (12, [.ref aCol, .int vTa, .ref aFa, .ref aRu, .int vRc, .ref aRo, .ref aLa, .ref aVa]))], [(aCol, .inl (tt 0, 5, .inl vCol))], [(aRu, .inl (tt 5, 5, .inr (.inr (.inr (.inr (fun j => some (eRu j)))))))], [(aRo, .inl (tt 6, 5, .inr (.inr (.inr (.inr (fun j => some (eRo j)))))))], (wA eRo (tt 2) 5 512 vRo), [(aVa, .inl (tt 0, 4, .inl q71.2))], [((eRu x4.toNatClampNeg), .inl (tt 0, 25, .inl (vRu x4.toNatClampNeg)))], (wAx eRu (tt 0) 5 25 vRu x4.toNatClampNeg)]).Perm (zW [[(aT, .inr (12, [.ref aCol, .int vTa, .ref aFa, .ref aRu, .int vRc, .ref aRo, .ref aLa, .ref aVa]))], [(aCol, .inl (tt 0, 5, .inl vCol))], [(aVa, .inl (tt 0, 4, .inl q71.2))], [((eRu x4.toNatClampNeg), .inl (tt 0, 25, .inl (vRu x4.toNatClampNeg)))]] ++ zW [[(aFa, .inl (tt 6, 5, .inr (.inr (.inr (.inr (fun j => some (eFa j)))))))], (wA eFa (tt 2) 5 512 vFa), [(aRu, .inl (tt 5, 5, .inr (.inr (.inr (.inr (fun j => some (eRu j)))))))], [(aRo, .inl (tt 6, 5, .inr (.inr (.inr (.inr (fun j => some (eRo j)))))))], (wA eRo (tt 2) 5 512 vRo), (wAx eRu (tt 0) 5 25 vRu x4.toNatClampNeg)]) := zS_cut (is := [2, 3, 7, 8]) (js := [0, 1, 4, 5, 6, 9]) 10 rfl rfl rfl (by decide)
              refine s_backi (s_goV (As := [.ref (eRu x4.toNatClampNeg), .int (0 : Int32)]) (rest := [.int x3]) (ci := 12) ⟨hx, hb, hml, hown, hts⟩ hK hN hX hO hAA hp_96 hP hD hS hA (oX13_codeBy l G tt sa hlt H.size K 25 aT aCol aFa aRu aRo aLa aVa (eRu x4.toNatClampNeg) vTa vRc vCol q71.2 (vRu x4.toNatClampNeg) (0 : Int32) q96 hc_96) (cwV 2 hts gX13_reasons_X13_codeBy rfl rfl rfl (by decide +kernel) ⟨Nat.le_of_ble_eq_true rfl, Nat.le_of_ble_eq_true rfl⟩) rfl rfl rfl hl.1 rfl (Nat.le_of_ble_eq_true rfl) dX13_reasons_96 ⟨Nat.le_of_ble_eq_true rfl, Nat.le_of_ble_eq_true rfl⟩) hp_96 hP hD hS hA (fun r_96 u H locs hw hP hD hS => ?_)
              replace hw := hw.symm; subst hw
              have hP : va_P G vwCl (zW [[(aFa, .inl (tt 6, 5, .inr (.inr (.inr (.inr (fun j => some (eFa j)))))))], (wA eFa (tt 2) 5 512 vFa), [(aRu, .inl (tt 5, 5, .inr (.inr (.inr (.inr (fun j => some (eRu j)))))))], [(aRo, .inl (tt 6, 5, .inr (.inr (.inr (.inr (fun j => some (eRo j)))))))], (wA eRo (tt 2) 5 512 vRo), (wAx eRu (tt 0) 5 25 vRu x4.toNatClampNeg), [(aT, .inr (12, [.ref aCol, .int vTa, .ref aFa, .ref aRu, .int vRc, .ref aRo, .ref aLa, .ref aVa]))], [(aCol, .inl (tt 0, 5, .inl vCol))], [(aVa, .inl (tt 0, 4, .inl q71.2))], [((eRu x4.toNatClampNeg), .inl (tt 0, 25, .inl (vRu x4.toNatClampNeg)))]]) H := hP
              have hD : va_D A (zW [[(aFa, .inl (tt 6, 5, .inr (.inr (.inr (.inr (fun j => some (eFa j)))))))], (wA eFa (tt 2) 5 512 vFa), [(aRu, .inl (tt 5, 5, .inr (.inr (.inr (.inr (fun j => some (eRu j)))))))], [(aRo, .inl (tt 6, 5, .inr (.inr (.inr (.inr (fun j => some (eRo j)))))))], (wA eRo (tt 2) 5 512 vRo), (wAx eRu (tt 0) 5 25 vRu x4.toNatClampNeg), [(aT, .inr (12, [.ref aCol, .int vTa, .ref aFa, .ref aRu, .int vRc, .ref aRo, .ref aLa, .ref aVa]))], [(aCol, .inl (tt 0, 5, .inl vCol))], [(aVa, .inl (tt 0, 4, .inl q71.2))], [((eRu x4.toNatClampNeg), .inl (tt 0, 25, .inl (vRu x4.toNatClampNeg)))]]) := hD
              have hP := zP_perm (zS_stay (C := [[(aFa, .inl (tt 6, 5, .inr (.inr (.inr (.inr (fun j => some (eFa j)))))))], (wA eFa (tt 2) 5 512 vFa), [(aRu, .inl (tt 5, 5, .inr (.inr (.inr (.inr (fun j => some (eRu j)))))))], [(aRo, .inl (tt 6, 5, .inr (.inr (.inr (.inr (fun j => some (eRo j)))))))], (wA eRo (tt 2) 5 512 vRo), [(aT, .inr (12, [.ref aCol, .int vTa, .ref aFa, .ref aRu, .int vRc, .ref aRo, .ref aLa, .ref aVa]))], [(aCol, .inl (tt 0, 5, .inl vCol))], [(aVa, .inl (tt 0, 4, .inl q71.2))]]) (is := [0, 1, 2, 3, 4, 6, 7, 8]) 10 rfl 9 5 rfl rfl (zlt_of h_94) rfl (by decide)) hP
              have hD := zD_perm (zS_stay (C := [[(aFa, .inl (tt 6, 5, .inr (.inr (.inr (.inr (fun j => some (eFa j)))))))], (wA eFa (tt 2) 5 512 vFa), [(aRu, .inl (tt 5, 5, .inr (.inr (.inr (.inr (fun j => some (eRu j)))))))], [(aRo, .inl (tt 6, 5, .inr (.inr (.inr (.inr (fun j => some (eRo j)))))))], (wA eRo (tt 2) 5 512 vRo), [(aT, .inr (12, [.ref aCol, .int vTa, .ref aFa, .ref aRu, .int vRc, .ref aRo, .ref aLa, .ref aVa]))], [(aCol, .inl (tt 0, 5, .inl vCol))], [(aVa, .inl (tt 0, 4, .inl q71.2))]]) (is := [0, 1, 2, 3, 4, 6, 7, 8]) 10 rfl 9 5 rfl rfl (zlt_of h_94) rfl (by decide)) hD
              have hP : va_P G vwCl (zW [[(aFa, .inl (tt 6, 5, .inr (.inr (.inr (.inr (fun j => some (eFa j)))))))], (wA eFa (tt 2) 5 512 vFa), [(aRu, .inl (tt 5, 5, .inr (.inr (.inr (.inr (fun j => some (eRu j)))))))], [(aRo, .inl (tt 6, 5, .inr (.inr (.inr (.inr (fun j => some (eRo j)))))))], (wA eRo (tt 2) 5 512 vRo), [(aT, .inr (12, [.ref aCol, .int vTa, .ref aFa, .ref aRu, .int vRc, .ref aRo, .ref aLa, .ref aVa]))], [(aCol, .inl (tt 0, 5, .inl vCol))], [(aVa, .inl (tt 0, 4, .inl q71.2))], (wA eRu (tt 0) 5 25 vRu)]) H := hP
              have hD : va_D A (zW [[(aFa, .inl (tt 6, 5, .inr (.inr (.inr (.inr (fun j => some (eFa j)))))))], (wA eFa (tt 2) 5 512 vFa), [(aRu, .inl (tt 5, 5, .inr (.inr (.inr (.inr (fun j => some (eRu j)))))))], [(aRo, .inl (tt 6, 5, .inr (.inr (.inr (.inr (fun j => some (eRo j)))))))], (wA eRo (tt 2) 5 512 vRo), [(aT, .inr (12, [.ref aCol, .int vTa, .ref aFa, .ref aRu, .int vRc, .ref aRo, .ref aLa, .ref aVa]))], [(aCol, .inl (tt 0, 5, .inl vCol))], [(aVa, .inl (tt 0, 4, .inl q71.2))], (wA eRu (tt 0) 5 25 vRu)]) := hD
              refine lv_iload_n hx hb dX13_reasons_99 rfl (lv_at hl 2 rfl) ?_
              refine lv_icmp_ne (tgt := 107) hx hb dX13_reasons_100 (by decide) (fun c_100 => ?_) (fun c_100 => ?_)
              · have hF := z_f c_100 hF
                have hpj : (zW [[(aFa, .inl (tt 6, 5, .inr (.inr (.inr (.inr (fun j => some (eFa j)))))))], (wA eFa (tt 2) 5 512 vFa), [(aRu, .inl (tt 5, 5, .inr (.inr (.inr (.inr (fun j => some (eRu j)))))))], [(aRo, .inl (tt 6, 5, .inr (.inr (.inr (.inr (fun j => some (eRo j)))))))], (wA eRo (tt 2) 5 512 vRo), [(aT, .inr (12, [.ref aCol, .int vTa, .ref aFa, .ref aRu, .int vRc, .ref aRo, .ref aLa, .ref aVa]))], [(aCol, .inl (tt 0, 5, .inl vCol))], [(aVa, .inl (tt 0, 4, .inl q71.2))], (wA eRu (tt 0) 5 25 vRu)]).Perm (zW [[(aT, .inr (12, [.ref aCol, .int vTa, .ref aFa, .ref aRu, .int vRc, .ref aRo, .ref aLa, .ref aVa]))], [(aCol, .inl (tt 0, 5, .inl vCol))], [(aFa, .inl (tt 6, 5, .inr (.inr (.inr (.inr (fun j => some (eFa j)))))))], (wA eFa (tt 2) 5 512 vFa), [(aRu, .inl (tt 5, 5, .inr (.inr (.inr (.inr (fun j => some (eRu j)))))))], (wA eRu (tt 0) 5 25 vRu), [(aRo, .inl (tt 6, 5, .inr (.inr (.inr (.inr (fun j => some (eRo j)))))))], (wA eRo (tt 2) 5 512 vRo), [(aVa, .inl (tt 0, 4, .inl q71.2))]] ++ zW []) := zS_cut (is := [5, 6, 0, 1, 2, 8, 3, 4, 7]) (js := []) 9 rfl rfl rfl (by decide)
                exact hb107 _ _ _ _ _ _ _ _ hF (zS_subP hpj hP) (zS_subD hpj hD) hS (lv_sub hl [0, 1, 2, 4, 5, 6] rfl)
              · have hF := z_t c_100 hF
                refine lv_iconst (v := (1 : Int32)) hx hb dX13_reasons_103 (by decide) ?_
                refine lv_goto (tgt := 108) hx hb dX13_reasons_104 (by decide) ?_
                have hpj : (zW [[(aFa, .inl (tt 6, 5, .inr (.inr (.inr (.inr (fun j => some (eFa j)))))))], (wA eFa (tt 2) 5 512 vFa), [(aRu, .inl (tt 5, 5, .inr (.inr (.inr (.inr (fun j => some (eRu j)))))))], [(aRo, .inl (tt 6, 5, .inr (.inr (.inr (.inr (fun j => some (eRo j)))))))], (wA eRo (tt 2) 5 512 vRo), [(aT, .inr (12, [.ref aCol, .int vTa, .ref aFa, .ref aRu, .int vRc, .ref aRo, .ref aLa, .ref aVa]))], [(aCol, .inl (tt 0, 5, .inl vCol))], [(aVa, .inl (tt 0, 4, .inl q71.2))], (wA eRu (tt 0) 5 25 vRu)]).Perm (zW [[(aT, .inr (12, [.ref aCol, .int vTa, .ref aFa, .ref aRu, .int vRc, .ref aRo, .ref aLa, .ref aVa]))], [(aCol, .inl (tt 0, 5, .inl vCol))], [(aFa, .inl (tt 6, 5, .inr (.inr (.inr (.inr (fun j => some (eFa j)))))))], (wA eFa (tt 2) 5 512 vFa), [(aRu, .inl (tt 5, 5, .inr (.inr (.inr (.inr (fun j => some (eRu j)))))))], (wA eRu (tt 0) 5 25 vRu), [(aRo, .inl (tt 6, 5, .inr (.inr (.inr (.inr (fun j => some (eRo j)))))))], (wA eRo (tt 2) 5 512 vRo), [(aVa, .inl (tt 0, 4, .inl q71.2))]] ++ zW []) := zS_cut (is := [5, 6, 0, 1, 2, 8, 3, 4, 7]) (js := []) 9 rfl rfl rfl (by decide)
                exact hb108 _ _ _ _ _ _ _ _ _ hF (zS_subP hpj hP) (zS_subD hpj hD) hS (lv_sub hl [0, 1, 2, 4, 5, 6] rfl)
      intro x3 x4 vVa H locs ls hF hP hD hS hl
      rw [hX13_reasons_20] at hF
      refine lv_iload hx hb dX13_reasons_20 (lv_at hl 4 rfl) ?_
      refine lv_aload_n hx hb dX13_reasons_22 rfl (lv_at hl 0 rfl) ?_
      obtain ⟨k_23, hk_23, hs_23⟩ := zS_one hP 0 rfl
      refine va_get (D := G) (ci := 12) (v := .int vRc) (C := RX13) (T := TX13) (N := 8) hx hb hts hiX13 hown hK hP k_23 hk_23 rfl 4 (by decide) (hts (.fieldLink RX13 56 "LeapTablesLaw$Told" "ruleCount" "I") (List.mem_of_getElem? (i := 2) rfl)) (fun _ h9 => h9) rfl dX13_reasons_23 ?_
      refine lv_icmp_ge (tgt := 122) hx hb dX13_reasons_26 (by decide) (fun c_26 => ?_) (fun c_26 => ?_)
      · have hF := z_t c_26 hF
        refine lv_iload_n hx hb dX13_reasons_122 rfl (lv_at hl 3 rfl) ?_
        have hp9 : (zW [[(aT, .inr (12, [.ref aCol, .int vTa, .ref aFa, .ref aRu, .int vRc, .ref aRo, .ref aLa, .ref aVa]))], [(aCol, .inl (tt 0, 5, .inl vCol))], [(aFa, .inl (tt 6, 5, .inr (.inr (.inr (.inr (fun j => some (eFa j)))))))], (wA eFa (tt 2) 5 512 vFa), [(aRu, .inl (tt 5, 5, .inr (.inr (.inr (.inr (fun j => some (eRu j)))))))], (wA eRu (tt 0) 5 25 vRu), [(aRo, .inl (tt 6, 5, .inr (.inr (.inr (.inr (fun j => some (eRo j)))))))], (wA eRo (tt 2) 5 512 vRo), [(aVa, .inl (tt 0, 4, .inl vVa))]]).Perm (zW [[(aT, .inr (12, [.ref aCol, .int vTa, .ref aFa, .ref aRu, .int vRc, .ref aRo, .ref aLa, .ref aVa]))], [(aCol, .inl (tt 0, 5, .inl vCol))], [(aFa, .inl (tt 6, 5, .inr (.inr (.inr (.inr (fun j => some (eFa j)))))))], (wA eFa (tt 2) 5 512 vFa), [(aRu, .inl (tt 5, 5, .inr (.inr (.inr (.inr (fun j => some (eRu j)))))))], (wA eRu (tt 0) 5 25 vRu), [(aRo, .inl (tt 6, 5, .inr (.inr (.inr (.inr (fun j => some (eRo j)))))))], (wA eRo (tt 2) 5 512 vRo), [(aVa, .inl (tt 0, 4, .inl vVa))]] ++ zW []) := zS_cut (is := [0, 1, 2, 3, 4, 5, 6, 7, 8]) (js := []) 9 rfl rfl rfl (by decide)
        have hP9 : va_P G vwCl (zW [[(aT, .inr (12, [.ref aCol, .int vTa, .ref aFa, .ref aRu, .int vRc, .ref aRo, .ref aLa, .ref aVa]))], [(aCol, .inl (tt 0, 5, .inl vCol))], [(aFa, .inl (tt 6, 5, .inr (.inr (.inr (.inr (fun j => some (eFa j)))))))], (wA eFa (tt 2) 5 512 vFa), [(aRu, .inl (tt 5, 5, .inr (.inr (.inr (.inr (fun j => some (eRu j)))))))], (wA eRu (tt 0) 5 25 vRu), [(aRo, .inl (tt 6, 5, .inr (.inr (.inr (.inr (fun j => some (eRo j)))))))], (wA eRo (tt 2) 5 512 vRo), [(aVa, .inl (tt 0, 4, .inl vVa))]]) H := zS_subP hp9 hP
        have hD9 : va_D A (zW [[(aT, .inr (12, [.ref aCol, .int vTa, .ref aFa, .ref aRu, .int vRc, .ref aRo, .ref aLa, .ref aVa]))], [(aCol, .inl (tt 0, 5, .inl vCol))], [(aFa, .inl (tt 6, 5, .inr (.inr (.inr (.inr (fun j => some (eFa j)))))))], (wA eFa (tt 2) 5 512 vFa), [(aRu, .inl (tt 5, 5, .inr (.inr (.inr (.inr (fun j => some (eRu j)))))))], (wA eRu (tt 0) 5 25 vRu), [(aRo, .inl (tt 6, 5, .inr (.inr (.inr (.inr (fun j => some (eRo j)))))))], (wA eRo (tt 2) 5 512 vRo), [(aVa, .inl (tt 0, 4, .inl vVa))]]) := zS_subD hp9 hD
        have hR := Option.some.inj hF
        exact W.iret (v := x3) hx hb hr (fun t ht hW => ⟨⟨x3, (vVa), rfl, (by subst hR; exact ⟨rfl, rfl⟩), by rw [ht]; exact hP9, va_K.moved hW.alike hK, hD9⟩, hS.F ht⟩) hS.2.2 dX13_reasons_123
      · have hF := z_f c_26 hF
        refine lv_aload_n hx hb dX13_reasons_29 rfl (lv_at hl 0 rfl) ?_
        obtain ⟨k_30, hk_30, hs_30⟩ := zS_one hP 0 rfl
        refine va_get (D := G) (ci := 12) (v := .ref aRu) (C := RX13) (T := TX13) (N := 8) hx hb hts hiX13 hown hK hP k_30 hk_30 rfl 3 (by decide) (hts (.fieldLink RX13 26 "LeapTablesLaw$Told" "rules" "[[I") (List.mem_of_getElem? (i := 3) rfl)) (fun _ h9 => h9) rfl dX13_reasons_30 ?_
        refine lv_iload hx hb dX13_reasons_33 (lv_at hl 4 rfl) ?_
        obtain ⟨h_35, hF⟩ := z_in hF
        obtain ⟨k_35, hk_35, hs_35⟩ := zS_one hP 4 rfl
        refine zA_aald (f := eRu) hx hb hK hP k_35 5 hk_35 rfl h_35 dX13_reasons_35 ?_
        refine lv_iconst (v := (0 : Int32)) hx hb dX13_reasons_36 (by decide) ?_
        obtain ⟨h_37, hF⟩ := z_in hF
        obtain ⟨k_37, hk_37, hs_37⟩ := zS_fam hP 5 rfl (zlt_of h_35)
        refine va_iald hx hb hK hP k_37 0 hk_37 rfl h_37 dX13_reasons_37 ?_
        refine lv_iload_n hx hb dX13_reasons_38 rfl (lv_at hl 1 rfl) ?_
        refine lv_icmp_ne (tgt := 116) hx hb dX13_reasons_39 (by decide) (fun c_39 => ?_) (fun c_39 => ?_)
        · have hF := z_f c_39 hF
          exact hb116 _ _ _ _ _ _ hF hP hD hS (lv_sub hl [0, 1, 2, 3, 4] rfl)
        · have hF := z_t c_39 hF
          refine lv_aload_n hx hb dX13_reasons_42 rfl (lv_at hl 0 rfl) ?_
          refine lv_iload hx hb dX13_reasons_43 (lv_at hl 4 rfl) ?_
          obtain ⟨q45, hc_45, hF⟩ := z_bind hF
          have hp_45 : (zW [[(aT, .inr (12, [.ref aCol, .int vTa, .ref aFa, .ref aRu, .int vRc, .ref aRo, .ref aLa, .ref aVa]))], [(aCol, .inl (tt 0, 5, .inl vCol))], [(aFa, .inl (tt 6, 5, .inr (.inr (.inr (.inr (fun j => some (eFa j)))))))], (wA eFa (tt 2) 5 512 vFa), [(aRu, .inl (tt 5, 5, .inr (.inr (.inr (.inr (fun j => some (eRu j)))))))], (wA eRu (tt 0) 5 25 vRu), [(aRo, .inl (tt 6, 5, .inr (.inr (.inr (.inr (fun j => some (eRo j)))))))], (wA eRo (tt 2) 5 512 vRo), [(aVa, .inl (tt 0, 4, .inl vVa))]]).Perm (zW [[(aT, .inr (12, [.ref aCol, .int vTa, .ref aFa, .ref aRu, .int vRc, .ref aRo, .ref aLa, .ref aVa]))], [(aCol, .inl (tt 0, 5, .inl vCol))], [(aRu, .inl (tt 5, 5, .inr (.inr (.inr (.inr (fun j => some (eRu j)))))))], (wA eRu (tt 0) 5 25 vRu)] ++ zW [[(aFa, .inl (tt 6, 5, .inr (.inr (.inr (.inr (fun j => some (eFa j)))))))], (wA eFa (tt 2) 5 512 vFa), [(aRo, .inl (tt 6, 5, .inr (.inr (.inr (.inr (fun j => some (eRo j)))))))], (wA eRo (tt 2) 5 512 vRo), [(aVa, .inl (tt 0, 4, .inl vVa))]]) := zS_cut (is := [0, 1, 4, 5]) (js := [2, 3, 6, 7, 8]) 9 rfl rfl rfl (by decide)
          refine s_backi (s_goV (As := [.int x4]) (rest := []) (ci := 12) ⟨hx, hb, hml, hown, hts⟩ hK hN hX hO hAA hp_45 hP hD hS hA (oX13_isIdle l G tt sa hlt H.size K aT aCol aFa aRu aRo aLa aVa eRu vTa vRc vCol vRu x4 q45 hc_45) (cwV 1 hts gX13_reasons_X13_isIdle rfl rfl rfl (by decide +kernel) ⟨Nat.le_of_ble_eq_true rfl, Nat.le_of_ble_eq_true rfl⟩) rfl rfl rfl hl.1 rfl (Nat.le_of_ble_eq_true rfl) dX13_reasons_45 ⟨Nat.le_of_ble_eq_true rfl, Nat.le_of_ble_eq_true rfl⟩) hp_45 hP hD hS hA (fun r_45 u H locs hw hP hD hS => ?_)
          replace hw := hw.symm; subst hw
          have hP : va_P G vwCl (zW [[(aFa, .inl (tt 6, 5, .inr (.inr (.inr (.inr (fun j => some (eFa j)))))))], (wA eFa (tt 2) 5 512 vFa), [(aRo, .inl (tt 6, 5, .inr (.inr (.inr (.inr (fun j => some (eRo j)))))))], (wA eRo (tt 2) 5 512 vRo), [(aVa, .inl (tt 0, 4, .inl vVa))], [(aT, .inr (12, [.ref aCol, .int vTa, .ref aFa, .ref aRu, .int vRc, .ref aRo, .ref aLa, .ref aVa]))], [(aCol, .inl (tt 0, 5, .inl vCol))], [(aRu, .inl (tt 5, 5, .inr (.inr (.inr (.inr (fun j => some (eRu j)))))))], (wA eRu (tt 0) 5 25 vRu)]) H := hP
          have hD : va_D A (zW [[(aFa, .inl (tt 6, 5, .inr (.inr (.inr (.inr (fun j => some (eFa j)))))))], (wA eFa (tt 2) 5 512 vFa), [(aRo, .inl (tt 6, 5, .inr (.inr (.inr (.inr (fun j => some (eRo j)))))))], (wA eRo (tt 2) 5 512 vRo), [(aVa, .inl (tt 0, 4, .inl vVa))], [(aT, .inr (12, [.ref aCol, .int vTa, .ref aFa, .ref aRu, .int vRc, .ref aRo, .ref aLa, .ref aVa]))], [(aCol, .inl (tt 0, 5, .inl vCol))], [(aRu, .inl (tt 5, 5, .inr (.inr (.inr (.inr (fun j => some (eRu j)))))))], (wA eRu (tt 0) 5 25 vRu)]) := hD
          refine lv_if_eq (tgt := 54) hx hb dX13_reasons_48 (by decide) (fun c_48 => ?_) (fun c_48 => ?_)
          · have hF := z_t c_48 hF
            refine lv_aload_n hx hb dX13_reasons_54 rfl (lv_at hl 0 rfl) ?_
            refine lv_iload hx hb dX13_reasons_55 (lv_at hl 4 rfl) ?_
            refine lv_iconst (v := (0 : Int32)) hx hb dX13_reasons_57 (by decide) ?_
            obtain ⟨q58, hc_58, hF⟩ := z_bind hF
            have hp_58 : (zW [[(aFa, .inl (tt 6, 5, .inr (.inr (.inr (.inr (fun j => some (eFa j)))))))], (wA eFa (tt 2) 5 512 vFa), [(aRo, .inl (tt 6, 5, .inr (.inr (.inr (.inr (fun j => some (eRo j)))))))], (wA eRo (tt 2) 5 512 vRo), [(aVa, .inl (tt 0, 4, .inl vVa))], [(aT, .inr (12, [.ref aCol, .int vTa, .ref aFa, .ref aRu, .int vRc, .ref aRo, .ref aLa, .ref aVa]))], [(aCol, .inl (tt 0, 5, .inl vCol))], [(aRu, .inl (tt 5, 5, .inr (.inr (.inr (.inr (fun j => some (eRu j)))))))], (wA eRu (tt 0) 5 25 vRu)]).Perm (zW [[(aT, .inr (12, [.ref aCol, .int vTa, .ref aFa, .ref aRu, .int vRc, .ref aRo, .ref aLa, .ref aVa]))], [(aCol, .inl (tt 0, 5, .inl vCol))], [(aRu, .inl (tt 5, 5, .inr (.inr (.inr (.inr (fun j => some (eRu j)))))))], (wA eRu (tt 0) 5 25 vRu)] ++ zW [[(aFa, .inl (tt 6, 5, .inr (.inr (.inr (.inr (fun j => some (eFa j)))))))], (wA eFa (tt 2) 5 512 vFa), [(aRo, .inl (tt 6, 5, .inr (.inr (.inr (.inr (fun j => some (eRo j)))))))], (wA eRo (tt 2) 5 512 vRo), [(aVa, .inl (tt 0, 4, .inl vVa))]]) := zS_cut (is := [5, 6, 7, 8]) (js := [0, 1, 2, 3, 4]) 9 rfl rfl rfl (by decide)
            refine s_backi (s_goV (As := [.int x4, .int (0 : Int32)]) (rest := []) (ci := 12) ⟨hx, hb, hml, hown, hts⟩ hK hN hX hO hAA hp_58 hP hD hS hA (oX13_variablesOf l G tt sa hlt H.size K aT aCol aFa aRu aRo aLa aVa eRu vTa vRc vCol vRu x4 (0 : Int32) q58 hc_58) (cwV 2 hts gX13_reasons_X13_variablesOf rfl rfl rfl (by decide +kernel) ⟨Nat.le_of_ble_eq_true rfl, Nat.le_of_ble_eq_true rfl⟩) rfl rfl rfl hl.1 rfl (Nat.le_of_ble_eq_true rfl) dX13_reasons_58 ⟨Nat.le_of_ble_eq_true rfl, Nat.le_of_ble_eq_true rfl⟩) hp_58 hP hD hS hA (fun r_58 u H locs hw hP hD hS => ?_)
            replace hw := hw.symm; subst hw
            have hP : va_P G vwCl (zW [[(aFa, .inl (tt 6, 5, .inr (.inr (.inr (.inr (fun j => some (eFa j)))))))], (wA eFa (tt 2) 5 512 vFa), [(aRo, .inl (tt 6, 5, .inr (.inr (.inr (.inr (fun j => some (eRo j)))))))], (wA eRo (tt 2) 5 512 vRo), [(aVa, .inl (tt 0, 4, .inl vVa))], [(aT, .inr (12, [.ref aCol, .int vTa, .ref aFa, .ref aRu, .int vRc, .ref aRo, .ref aLa, .ref aVa]))], [(aCol, .inl (tt 0, 5, .inl vCol))], [(aRu, .inl (tt 5, 5, .inr (.inr (.inr (.inr (fun j => some (eRu j)))))))], (wA eRu (tt 0) 5 25 vRu)]) H := hP
            have hD : va_D A (zW [[(aFa, .inl (tt 6, 5, .inr (.inr (.inr (.inr (fun j => some (eFa j)))))))], (wA eFa (tt 2) 5 512 vFa), [(aRo, .inl (tt 6, 5, .inr (.inr (.inr (.inr (fun j => some (eRo j)))))))], (wA eRo (tt 2) 5 512 vRo), [(aVa, .inl (tt 0, 4, .inl vVa))], [(aT, .inr (12, [.ref aCol, .int vTa, .ref aFa, .ref aRu, .int vRc, .ref aRo, .ref aLa, .ref aVa]))], [(aCol, .inl (tt 0, 5, .inl vCol))], [(aRu, .inl (tt 5, 5, .inr (.inr (.inr (.inr (fun j => some (eRu j)))))))], (wA eRu (tt 0) 5 25 vRu)]) := hD
            refine lv_istore (lv' := [(5, .int q58), (0, .ref aT), (1, .int p1), (2, .int p2), (3, .int x3), (4, .int x4)]) hx hb dX13_reasons_61 hl (by decide) rfl (fun ls hl => ?_)
            refine lv_iconst (v := (0 : Int32)) hx hb dX13_reasons_63 (by decide) ?_
            refine lv_istore (lv' := [(6, .int (0 : Int32)), (5, .int q58), (0, .ref aT), (1, .int p1), (2, .int p2), (3, .int x3), (4, .int x4)]) hx hb dX13_reasons_64 hl (by decide) rfl (fun ls hl => ?_)
            have hpj : (zW [[(aFa, .inl (tt 6, 5, .inr (.inr (.inr (.inr (fun j => some (eFa j)))))))], (wA eFa (tt 2) 5 512 vFa), [(aRo, .inl (tt 6, 5, .inr (.inr (.inr (.inr (fun j => some (eRo j)))))))], (wA eRo (tt 2) 5 512 vRo), [(aVa, .inl (tt 0, 4, .inl vVa))], [(aT, .inr (12, [.ref aCol, .int vTa, .ref aFa, .ref aRu, .int vRc, .ref aRo, .ref aLa, .ref aVa]))], [(aCol, .inl (tt 0, 5, .inl vCol))], [(aRu, .inl (tt 5, 5, .inr (.inr (.inr (.inr (fun j => some (eRu j)))))))], (wA eRu (tt 0) 5 25 vRu)]).Perm (zW [[(aT, .inr (12, [.ref aCol, .int vTa, .ref aFa, .ref aRu, .int vRc, .ref aRo, .ref aLa, .ref aVa]))], [(aCol, .inl (tt 0, 5, .inl vCol))], [(aFa, .inl (tt 6, 5, .inr (.inr (.inr (.inr (fun j => some (eFa j)))))))], (wA eFa (tt 2) 5 512 vFa), [(aRu, .inl (tt 5, 5, .inr (.inr (.inr (.inr (fun j => some (eRu j)))))))], (wA eRu (tt 0) 5 25 vRu), [(aRo, .inl (tt 6, 5, .inr (.inr (.inr (.inr (fun j => some (eRo j)))))))], (wA eRo (tt 2) 5 512 vRo), [(aVa, .inl (tt 0, 4, .inl vVa))]] ++ zW []) := zS_cut (is := [5, 6, 0, 1, 7, 8, 2, 3, 4]) (js := []) 9 rfl rfl rfl (by decide)
            exact hb66 K _ _ _ _ _ _ _ _ hF (zS_subP hpj hP) (zS_subD hpj hD) hS (lv_sub hl [2, 3, 4, 5, 6, 1, 0] rfl)
          · have hF := z_f c_48 hF
            refine lv_goto (tgt := 116) hx hb dX13_reasons_51 (by decide) ?_
            have hpj : (zW [[(aFa, .inl (tt 6, 5, .inr (.inr (.inr (.inr (fun j => some (eFa j)))))))], (wA eFa (tt 2) 5 512 vFa), [(aRo, .inl (tt 6, 5, .inr (.inr (.inr (.inr (fun j => some (eRo j)))))))], (wA eRo (tt 2) 5 512 vRo), [(aVa, .inl (tt 0, 4, .inl vVa))], [(aT, .inr (12, [.ref aCol, .int vTa, .ref aFa, .ref aRu, .int vRc, .ref aRo, .ref aLa, .ref aVa]))], [(aCol, .inl (tt 0, 5, .inl vCol))], [(aRu, .inl (tt 5, 5, .inr (.inr (.inr (.inr (fun j => some (eRu j)))))))], (wA eRu (tt 0) 5 25 vRu)]).Perm (zW [[(aT, .inr (12, [.ref aCol, .int vTa, .ref aFa, .ref aRu, .int vRc, .ref aRo, .ref aLa, .ref aVa]))], [(aCol, .inl (tt 0, 5, .inl vCol))], [(aFa, .inl (tt 6, 5, .inr (.inr (.inr (.inr (fun j => some (eFa j)))))))], (wA eFa (tt 2) 5 512 vFa), [(aRu, .inl (tt 5, 5, .inr (.inr (.inr (.inr (fun j => some (eRu j)))))))], (wA eRu (tt 0) 5 25 vRu), [(aRo, .inl (tt 6, 5, .inr (.inr (.inr (.inr (fun j => some (eRo j)))))))], (wA eRo (tt 2) 5 512 vRo), [(aVa, .inl (tt 0, 4, .inl vVa))]] ++ zW []) := zS_cut (is := [5, 6, 0, 1, 7, 8, 2, 3, 4]) (js := []) 9 rfl rfl rfl (by decide)
            exact hb116 _ _ _ _ _ _ hF (zS_subP hpj hP) (zS_subD hpj hD) hS (lv_sub hl [0, 1, 2, 3, 4] rfl)
  have hb16 : ∀ (t0 : Int32) (vVa : Nat → Int32)  (H : Heap) (locs : List Loc) (ls : Array Slot), hX13_reasons_16 K vRc vCol vFa vRu vRo p1 p2 t0 vVa = some RR → va_P G vwCl (zW [[(aT, .inr (12, [.ref aCol, .int vTa, .ref aFa, .ref aRu, .int vRc, .ref aRo, .ref aLa, .ref aVa]))], [(aCol, .inl (tt 0, 5, .inl vCol))], [(aFa, .inl (tt 6, 5, .inr (.inr (.inr (.inr (fun j => some (eFa j)))))))], (wA eFa (tt 2) 5 512 vFa), [(aRu, .inl (tt 5, 5, .inr (.inr (.inr (.inr (fun j => some (eRu j)))))))], (wA eRu (tt 0) 5 25 vRu), [(aRo, .inl (tt 6, 5, .inr (.inr (.inr (.inr (fun j => some (eRo j)))))))], (wA eRo (tt 2) 5 512 vRo), [(aVa, .inl (tt 0, 4, .inl vVa))]]) H → va_D A (zW [[(aT, .inr (12, [.ref aCol, .int vTa, .ref aFa, .ref aRu, .int vRc, .ref aRo, .ref aLa, .ref aVa]))], [(aCol, .inl (tt 0, 5, .inl vCol))], [(aFa, .inl (tt 6, 5, .inr (.inr (.inr (.inr (fun j => some (eFa j)))))))], (wA eFa (tt 2) 5 512 vFa), [(aRu, .inl (tt 5, 5, .inr (.inr (.inr (.inr (fun j => some (eRu j)))))))], (wA eRu (tt 0) 5 25 vRu), [(aRo, .inl (tt 6, 5, .inr (.inr (.inr (.inr (fun j => some (eRo j)))))))], (wA eRo (tt 2) 5 512 vRo), [(aVa, .inl (tt 0, 4, .inl vVa))]]) → va_S A s.heap H locs → lv_has ls 7 [(0, .ref aT), (1, .int p1), (2, .int p2)] → W p l e (headSpec wsX13_reasons ({ frames := 4, cells := 0, slots := 0, locals := 130 } : Room)).room s m ([.ref aT, .int p1, .int p2] : List Value).toArray below meth c H locs 0 0 (MQ below (va_Qi (fun (r : Int32) (u : (Nat → Int32)) => r = RR.1 ∧ u = RR.2) (zAt G (zTy tt) A (fun u : (Nat → Int32) => zW [[(aT, .inr (12, [.ref aCol, .int vTa, .ref aFa, .ref aRu, .int vRc, .ref aRo, .ref aLa, .ref aVa]))], [(aCol, .inl (tt 0, 5, .inl vCol))], [(aFa, .inl (tt 6, 5, .inr (.inr (.inr (.inr (fun j => some (eFa j)))))))], (wA eFa (tt 2) 5 512 vFa), [(aRu, .inl (tt 5, 5, .inr (.inr (.inr (.inr (fun j => some (eRu j)))))))], (wA eRu (tt 0) 5 25 vRu), [(aRo, .inl (tt 6, 5, .inr (.inr (.inr (.inr (fun j => some (eRo j)))))))], (wA eRo (tt 2) 5 512 vRo), [(aVa, .inl (tt 0, 4, .inl u))]])) A) ([.ref aT, .int p1, .int p2] : List Value).toArray s 0 0 A) (F0 m 16 ls [.int t0]) := by
    intro t0 vVa H locs ls hF hP hD hS hl
    unfold hX13_reasons_16 at hF
    refine lv_istore_n (lv' := [(3, .int t0), (0, .ref aT), (1, .int p1), (2, .int p2)]) hx hb dX13_reasons_16 rfl hl (by decide) rfl (fun ls hl => ?_)
    refine lv_iconst (v := (0 : Int32)) hx hb dX13_reasons_17 (by decide) ?_
    refine lv_istore (lv' := [(4, .int (0 : Int32)), (3, .int t0), (0, .ref aT), (1, .int p1), (2, .int p2)]) hx hb dX13_reasons_18 hl (by decide) rfl (fun ls hl => ?_)
    exact hb20 K _ _ _ _ _ _ hF hP hD hS (lv_sub hl [2, 3, 4, 1, 0] rfl)
  obtain ⟨H, hHe⟩ : ∃ H : Heap, s.heap = H := ⟨_, rfl⟩
  have hS : va_S A s.heap H [] := by rw [← hHe]; exact va_S.rf
  rw [hHe] at hP ⊢
  unfold hX13_reasons at hF
  refine lv_aload_n hx hb dX13_reasons_0 rfl (lv_at hl 0 rfl) ?_
  obtain ⟨k_1, hk_1, hs_1⟩ := zS_one hP 0 rfl
  refine va_get (D := G) (ci := 12) (v := .ref aFa) (C := RX13) (T := TX13) (N := 8) hx hb hts hiX13 hown hK hP k_1 hk_1 rfl 2 (by decide) (hts (.fieldLink RX13 21 "LeapTablesLaw$Told" "facts" "[[Z") (List.mem_of_getElem? (i := 1) rfl)) (fun _ h9 => h9) rfl dX13_reasons_1 ?_
  refine lv_iload_n hx hb dX13_reasons_4 rfl (lv_at hl 1 rfl) ?_
  obtain ⟨h_5, hF⟩ := z_in hF
  obtain ⟨k_5, hk_5, hs_5⟩ := zS_one hP 2 rfl
  refine zA_aald (f := eFa) hx hb hK hP k_5 6 hk_5 rfl h_5 dX13_reasons_5 ?_
  refine lv_iload_n hx hb dX13_reasons_6 rfl (lv_at hl 2 rfl) ?_
  obtain ⟨h_7, hF⟩ := z_in hF
  obtain ⟨k_7, hk_7, hs_7⟩ := zS_fam hP 3 rfl (zlt_of h_5)
  refine va_zald hx hb hK hP k_7 2 hk_7 rfl h_7 dX13_reasons_7 ?_
  refine lv_if_eq (tgt := 15) hx hb dX13_reasons_8 (by decide) (fun c_8 => ?_) (fun c_8 => ?_)
  · have hF := z_t c_8 hF
    refine lv_iconst (v := (0 : Int32)) hx hb dX13_reasons_15 (by decide) ?_
    exact hb16 _ _ _ _ _ hF hP hD hS (lv_sub hl [0, 1, 2] rfl)
  · have hF := z_f c_8 hF
    refine lv_iconst (v := (1 : Int32)) hx hb dX13_reasons_11 (by decide) ?_
    refine lv_goto (tgt := 16) hx hb dX13_reasons_12 (by decide) ?_
    exact hb16 _ _ _ _ _ hF hP hD hS (lv_sub hl [0, 1, 2] rfl)

set_option maxHeartbeats 8000000 in
set_option maxRecDepth 100000 in
theorem oX13_follows (l : Launch) (G : va_G) (tt : Nat → ClassId) (sa : Nat → Nat) (hlt : l.stackTraces = false) (sz : Nat) (K : Nat) (aT : Nat) (aCol : Nat) (aFa : Nat) (aRu : Nat) (aRo : Nat) (aLa : Nat) (aVa : Nat) (eFa : Nat → Nat) (eRu : Nat → Nat) (eRo : Nat → Nat) (vTa : Int32) (vRc : Int32) (vCol : Nat → Int32) (vFa : Nat → Nat → Int32) (vRu : Nat → Nat → Int32) (vRo : Nat → Nat → Int32) (vLa : Nat → Int32) (vVa : Nat → Int32) (RR : (Nat → Nat → Int32) × (Nat → Int32) × (Nat → Int32)) (hF : hX13_follows K vRc vCol vFa vRu vRo vLa vVa = some RR) : Met l yX13_follows wsX13_follows ({ frames := 5, cells := 0, slots := 0, locals := 153 } : Room) (zPreQ G (zTy tt) sa [.ref aT] sz (zW [[(aT, .inr (12, [.ref aCol, .int vTa, .ref aFa, .ref aRu, .int vRc, .ref aRo, .ref aLa, .ref aVa]))], [(aCol, .inl (tt 0, 5, .inl vCol))], [(aFa, .inl (tt 6, 5, .inr (.inr (.inr (.inr (fun j => some (eFa j)))))))], (wA eFa (tt 2) 5 512 vFa), [(aRu, .inl (tt 5, 5, .inr (.inr (.inr (.inr (fun j => some (eRu j)))))))], (wA eRu (tt 0) 5 25 vRu), [(aRo, .inl (tt 6, 5, .inr (.inr (.inr (.inr (fun j => some (eRo j)))))))], (wA eRo (tt 2) 5 512 vRo), [(aLa, .inl (tt 0, 5, .inl vLa))], [(aVa, .inl (tt 0, 4, .inl vVa))]])) (va_Qv (fun u : (Nat → Nat → Int32) × (Nat → Int32) × (Nat → Int32) => u = RR) (zAt G (zTy tt) (va_A (zW [[(aT, .inr (12, [.ref aCol, .int vTa, .ref aFa, .ref aRu, .int vRc, .ref aRo, .ref aLa, .ref aVa]))], [(aCol, .inl (tt 0, 5, .inl vCol))], [(aFa, .inl (tt 6, 5, .inr (.inr (.inr (.inr (fun j => some (eFa j)))))))], (wA eFa (tt 2) 5 512 vFa), [(aRu, .inl (tt 5, 5, .inr (.inr (.inr (.inr (fun j => some (eRu j)))))))], (wA eRu (tt 0) 5 25 vRu), [(aRo, .inl (tt 6, 5, .inr (.inr (.inr (.inr (fun j => some (eRo j)))))))], (wA eRo (tt 2) 5 512 vRo), [(aLa, .inl (tt 0, 5, .inl vLa))], [(aVa, .inl (tt 0, 4, .inl vVa))]]) sz) (fun u : (Nat → Nat → Int32) × (Nat → Int32) × (Nat → Int32) => zW [[(aT, .inr (12, [.ref aCol, .int vTa, .ref aFa, .ref aRu, .int vRc, .ref aRo, .ref aLa, .ref aVa]))], [(aCol, .inl (tt 0, 5, .inl vCol))], [(aFa, .inl (tt 6, 5, .inr (.inr (.inr (.inr (fun j => some (eFa j)))))))], (wA eFa (tt 2) 5 512 vFa), [(aRu, .inl (tt 5, 5, .inr (.inr (.inr (.inr (fun j => some (eRu j)))))))], (wA eRu (tt 0) 5 25 vRu), [(aRo, .inl (tt 6, 5, .inr (.inr (.inr (.inr (fun j => some (eRo j)))))))], (wA eRo (tt 2) 5 512 u.1), [(aLa, .inl (tt 0, 5, .inl u.2.1))], [(aVa, .inl (tt 0, 4, .inl u.2.2))]])) (va_A (zW [[(aT, .inr (12, [.ref aCol, .int vTa, .ref aFa, .ref aRu, .int vRc, .ref aRo, .ref aLa, .ref aVa]))], [(aCol, .inl (tt 0, 5, .inl vCol))], [(aFa, .inl (tt 6, 5, .inr (.inr (.inr (.inr (fun j => some (eFa j)))))))], (wA eFa (tt 2) 5 512 vFa), [(aRu, .inl (tt 5, 5, .inr (.inr (.inr (.inr (fun j => some (eRu j)))))))], (wA eRu (tt 0) 5 25 vRu), [(aRo, .inl (tt 6, 5, .inr (.inr (.inr (.inr (fun j => some (eRo j)))))))], (wA eRo (tt 2) 5 512 vRo), [(aLa, .inl (tt 0, 5, .inl vLa))], [(aVa, .inl (tt 0, 4, .inl vVa))]]) sz)) 0 0 (va_A (zW [[(aT, .inr (12, [.ref aCol, .int vTa, .ref aFa, .ref aRu, .int vRc, .ref aRo, .ref aLa, .ref aVa]))], [(aCol, .inl (tt 0, 5, .inl vCol))], [(aFa, .inl (tt 6, 5, .inr (.inr (.inr (.inr (fun j => some (eFa j)))))))], (wA eFa (tt 2) 5 512 vFa), [(aRu, .inl (tt 5, 5, .inr (.inr (.inr (.inr (fun j => some (eRu j)))))))], (wA eRu (tt 0) 5 25 vRu), [(aRo, .inl (tt 6, 5, .inr (.inr (.inr (.inr (fun j => some (eRo j)))))))], (wA eRo (tt 2) 5 512 vRo), [(aLa, .inl (tt 0, 5, .inl vLa))], [(aVa, .inl (tt 0, 4, .inl vVa))]]) sz) := by
  refine Met.ofW (cc := cX13_follows) (maxL := 5) (ret := none) (by decide +kernel) rfl ?_
  intro p e s m args below meth c s₁ B hml hv
  obtain ⟨rfl, hsz, hP, hK, hD0, hN, hX, hO, hAA⟩ := hv
  have hx := B.exec
  have hb := B.bytes
  have hr := B.returns
  have hts := atoms_spec (ws := wsX13_follows) B.pre
  have hown : s.vm.findClass RX13 = some m.cls := findClass_of_methodNamed B.named
  have hlocks := B.notSynchronized
  subst hsz
  have hD := hD0.self (sz := s.heap.size)
  generalize hAe : va_A (zW [[(aT, .inr (12, [.ref aCol, .int vTa, .ref aFa, .ref aRu, .int vRc, .ref aRo, .ref aLa, .ref aVa]))], [(aCol, .inl (tt 0, 5, .inl vCol))], [(aFa, .inl (tt 6, 5, .inr (.inr (.inr (.inr (fun j => some (eFa j)))))))], (wA eFa (tt 2) 5 512 vFa), [(aRu, .inl (tt 5, 5, .inr (.inr (.inr (.inr (fun j => some (eRu j)))))))], (wA eRu (tt 0) 5 25 vRu), [(aRo, .inl (tt 6, 5, .inr (.inr (.inr (.inr (fun j => some (eRo j)))))))], (wA eRo (tt 2) 5 512 vRo), [(aLa, .inl (tt 0, 5, .inl vLa))], [(aVa, .inl (tt 0, 4, .inl vVa))]]) s.heap.size = A at hD hX ⊢
  have hA : ∀ q : Nat, s.heap.size ≤ q → A q := fun q h => by rw [← hAe]; exact Or.inr h
  have hP : va_P G vwCl (zW [[(aT, .inr (12, [.ref aCol, .int vTa, .ref aFa, .ref aRu, .int vRc, .ref aRo, .ref aLa, .ref aVa]))], [(aCol, .inl (tt 0, 5, .inl vCol))], [(aFa, .inl (tt 6, 5, .inr (.inr (.inr (.inr (fun j => some (eFa j)))))))], (wA eFa (tt 2) 5 512 vFa), [(aRu, .inl (tt 5, 5, .inr (.inr (.inr (.inr (fun j => some (eRu j)))))))], (wA eRu (tt 0) 5 25 vRu), [(aRo, .inl (tt 6, 5, .inr (.inr (.inr (.inr (fun j => some (eRo j)))))))], (wA eRo (tt 2) 5 512 vRo), [(aLa, .inl (tt 0, 5, .inl vLa))], [(aVa, .inl (tt 0, 4, .inl vVa))]]) s.heap := hP
  have hiX13 : ∀ w ∈ wsX130, w ∈ wsX13_follows := by decide +kernel
  have hl := lv_entry ([.ref aT]) (n := 5) (Nat.le_of_ble_eq_true rfl)
  rw [lg_entry_eq]
  generalize (lg_sl ([.ref aT]) ++ List.replicate (5 - (lg_sl ([.ref aT])).length) Slot.unset).toArray = ls at hl ⊢
  have hl : lv_has ls 5 [(0, .ref aT)] := hl
  have hb51 : ∀ (k51 : Nat), ∀ (x1 : Int32) (x2 : Int32) (vRo : Nat → Nat → Int32) (vLa : Nat → Int32) (vVa : Nat → Int32)  (H : Heap) (locs : List Loc) (ls : Array Slot), hX13_follows_51 K vRc vCol vFa vRu k51 x1 x2 vRo vLa vVa = some RR → va_P G vwCl (zW [[(aT, .inr (12, [.ref aCol, .int vTa, .ref aFa, .ref aRu, .int vRc, .ref aRo, .ref aLa, .ref aVa]))], [(aCol, .inl (tt 0, 5, .inl vCol))], [(aFa, .inl (tt 6, 5, .inr (.inr (.inr (.inr (fun j => some (eFa j)))))))], (wA eFa (tt 2) 5 512 vFa), [(aRu, .inl (tt 5, 5, .inr (.inr (.inr (.inr (fun j => some (eRu j)))))))], (wA eRu (tt 0) 5 25 vRu), [(aRo, .inl (tt 6, 5, .inr (.inr (.inr (.inr (fun j => some (eRo j)))))))], (wA eRo (tt 2) 5 512 vRo), [(aLa, .inl (tt 0, 5, .inl vLa))], [(aVa, .inl (tt 0, 4, .inl vVa))]]) H → va_D A (zW [[(aT, .inr (12, [.ref aCol, .int vTa, .ref aFa, .ref aRu, .int vRc, .ref aRo, .ref aLa, .ref aVa]))], [(aCol, .inl (tt 0, 5, .inl vCol))], [(aFa, .inl (tt 6, 5, .inr (.inr (.inr (.inr (fun j => some (eFa j)))))))], (wA eFa (tt 2) 5 512 vFa), [(aRu, .inl (tt 5, 5, .inr (.inr (.inr (.inr (fun j => some (eRu j)))))))], (wA eRu (tt 0) 5 25 vRu), [(aRo, .inl (tt 6, 5, .inr (.inr (.inr (.inr (fun j => some (eRo j)))))))], (wA eRo (tt 2) 5 512 vRo), [(aLa, .inl (tt 0, 5, .inl vLa))], [(aVa, .inl (tt 0, 4, .inl vVa))]]) → va_S A s.heap H locs → lv_has ls 5 [(0, .ref aT), (1, .int x1), (2, .int x2)] → W p l e (headSpec wsX13_follows ({ frames := 5, cells := 0, slots := 0, locals := 153 } : Room)).room s m ([.ref aT] : List Value).toArray below meth c H locs 0 0 (MQ below (va_Qv (fun u : (Nat → Nat → Int32) × (Nat → Int32) × (Nat → Int32) => u = RR) (zAt G (zTy tt) A (fun u : (Nat → Nat → Int32) × (Nat → Int32) × (Nat → Int32) => zW [[(aT, .inr (12, [.ref aCol, .int vTa, .ref aFa, .ref aRu, .int vRc, .ref aRo, .ref aLa, .ref aVa]))], [(aCol, .inl (tt 0, 5, .inl vCol))], [(aFa, .inl (tt 6, 5, .inr (.inr (.inr (.inr (fun j => some (eFa j)))))))], (wA eFa (tt 2) 5 512 vFa), [(aRu, .inl (tt 5, 5, .inr (.inr (.inr (.inr (fun j => some (eRu j)))))))], (wA eRu (tt 0) 5 25 vRu), [(aRo, .inl (tt 6, 5, .inr (.inr (.inr (.inr (fun j => some (eRo j)))))))], (wA eRo (tt 2) 5 512 u.1), [(aLa, .inl (tt 0, 5, .inl u.2.1))], [(aVa, .inl (tt 0, 4, .inl u.2.2))]])) A) ([.ref aT] : List Value).toArray s 0 0 A) (F0 m 51 ls []) := by
    intro k51
    induction k51 with
    | zero => intro x1 x2 vRo vLa vVa H locs ls hF; rw [hX13_follows_51] at hF; cases hF
    | succ k51 ih51 =>
      have hb62 : ∀ (k62 : Nat), ∀ (x1 : Int32) (x2 : Int32) (x3 : Int32) (vRo : Nat → Nat → Int32) (vLa : Nat → Int32) (vVa : Nat → Int32)  (H : Heap) (locs : List Loc) (ls : Array Slot), hX13_follows_62 K vRc vCol vFa vRu (hX13_follows_51 K vRc vCol vFa vRu k51) k62 x1 x2 x3 vRo vLa vVa = some RR → va_P G vwCl (zW [[(aT, .inr (12, [.ref aCol, .int vTa, .ref aFa, .ref aRu, .int vRc, .ref aRo, .ref aLa, .ref aVa]))], [(aCol, .inl (tt 0, 5, .inl vCol))], [(aFa, .inl (tt 6, 5, .inr (.inr (.inr (.inr (fun j => some (eFa j)))))))], (wA eFa (tt 2) 5 512 vFa), [(aRu, .inl (tt 5, 5, .inr (.inr (.inr (.inr (fun j => some (eRu j)))))))], (wA eRu (tt 0) 5 25 vRu), [(aRo, .inl (tt 6, 5, .inr (.inr (.inr (.inr (fun j => some (eRo j)))))))], (wA eRo (tt 2) 5 512 vRo), [(aLa, .inl (tt 0, 5, .inl vLa))], [(aVa, .inl (tt 0, 4, .inl vVa))]]) H → va_D A (zW [[(aT, .inr (12, [.ref aCol, .int vTa, .ref aFa, .ref aRu, .int vRc, .ref aRo, .ref aLa, .ref aVa]))], [(aCol, .inl (tt 0, 5, .inl vCol))], [(aFa, .inl (tt 6, 5, .inr (.inr (.inr (.inr (fun j => some (eFa j)))))))], (wA eFa (tt 2) 5 512 vFa), [(aRu, .inl (tt 5, 5, .inr (.inr (.inr (.inr (fun j => some (eRu j)))))))], (wA eRu (tt 0) 5 25 vRu), [(aRo, .inl (tt 6, 5, .inr (.inr (.inr (.inr (fun j => some (eRo j)))))))], (wA eRo (tt 2) 5 512 vRo), [(aLa, .inl (tt 0, 5, .inl vLa))], [(aVa, .inl (tt 0, 4, .inl vVa))]]) → va_S A s.heap H locs → lv_has ls 5 [(0, .ref aT), (1, .int x1), (2, .int x2), (3, .int x3)] → W p l e (headSpec wsX13_follows ({ frames := 5, cells := 0, slots := 0, locals := 153 } : Room)).room s m ([.ref aT] : List Value).toArray below meth c H locs 0 0 (MQ below (va_Qv (fun u : (Nat → Nat → Int32) × (Nat → Int32) × (Nat → Int32) => u = RR) (zAt G (zTy tt) A (fun u : (Nat → Nat → Int32) × (Nat → Int32) × (Nat → Int32) => zW [[(aT, .inr (12, [.ref aCol, .int vTa, .ref aFa, .ref aRu, .int vRc, .ref aRo, .ref aLa, .ref aVa]))], [(aCol, .inl (tt 0, 5, .inl vCol))], [(aFa, .inl (tt 6, 5, .inr (.inr (.inr (.inr (fun j => some (eFa j)))))))], (wA eFa (tt 2) 5 512 vFa), [(aRu, .inl (tt 5, 5, .inr (.inr (.inr (.inr (fun j => some (eRu j)))))))], (wA eRu (tt 0) 5 25 vRu), [(aRo, .inl (tt 6, 5, .inr (.inr (.inr (.inr (fun j => some (eRo j)))))))], (wA eRo (tt 2) 5 512 u.1), [(aLa, .inl (tt 0, 5, .inl u.2.1))], [(aVa, .inl (tt 0, 4, .inl u.2.2))]])) A) ([.ref aT] : List Value).toArray s 0 0 A) (F0 m 62 ls []) := by
        intro k62
        induction k62 with
        | zero => intro x1 x2 x3 vRo vLa vVa H locs ls hF; rw [hX13_follows_62] at hF; cases hF
        | succ k62 ih62 =>
          have hb71 : ∀ (k71 : Nat), ∀ (x1 : Int32) (x2 : Int32) (x3 : Int32) (x4 : Int32) (vRo : Nat → Nat → Int32) (vLa : Nat → Int32) (vVa : Nat → Int32)  (H : Heap) (locs : List Loc) (ls : Array Slot), hX13_follows_71 K vRc vCol vFa vRu (hX13_follows_51 K vRc vCol vFa vRu k51) (hX13_follows_62 K vRc vCol vFa vRu (hX13_follows_51 K vRc vCol vFa vRu k51) k62) k71 x1 x2 x3 x4 vRo vLa vVa = some RR → va_P G vwCl (zW [[(aT, .inr (12, [.ref aCol, .int vTa, .ref aFa, .ref aRu, .int vRc, .ref aRo, .ref aLa, .ref aVa]))], [(aCol, .inl (tt 0, 5, .inl vCol))], [(aFa, .inl (tt 6, 5, .inr (.inr (.inr (.inr (fun j => some (eFa j)))))))], (wA eFa (tt 2) 5 512 vFa), [(aRu, .inl (tt 5, 5, .inr (.inr (.inr (.inr (fun j => some (eRu j)))))))], (wA eRu (tt 0) 5 25 vRu), [(aRo, .inl (tt 6, 5, .inr (.inr (.inr (.inr (fun j => some (eRo j)))))))], (wA eRo (tt 2) 5 512 vRo), [(aLa, .inl (tt 0, 5, .inl vLa))], [(aVa, .inl (tt 0, 4, .inl vVa))]]) H → va_D A (zW [[(aT, .inr (12, [.ref aCol, .int vTa, .ref aFa, .ref aRu, .int vRc, .ref aRo, .ref aLa, .ref aVa]))], [(aCol, .inl (tt 0, 5, .inl vCol))], [(aFa, .inl (tt 6, 5, .inr (.inr (.inr (.inr (fun j => some (eFa j)))))))], (wA eFa (tt 2) 5 512 vFa), [(aRu, .inl (tt 5, 5, .inr (.inr (.inr (.inr (fun j => some (eRu j)))))))], (wA eRu (tt 0) 5 25 vRu), [(aRo, .inl (tt 6, 5, .inr (.inr (.inr (.inr (fun j => some (eRo j)))))))], (wA eRo (tt 2) 5 512 vRo), [(aLa, .inl (tt 0, 5, .inl vLa))], [(aVa, .inl (tt 0, 4, .inl vVa))]]) → va_S A s.heap H locs → lv_has ls 5 [(0, .ref aT), (1, .int x1), (2, .int x2), (3, .int x3), (4, .int x4)] → W p l e (headSpec wsX13_follows ({ frames := 5, cells := 0, slots := 0, locals := 153 } : Room)).room s m ([.ref aT] : List Value).toArray below meth c H locs 0 0 (MQ below (va_Qv (fun u : (Nat → Nat → Int32) × (Nat → Int32) × (Nat → Int32) => u = RR) (zAt G (zTy tt) A (fun u : (Nat → Nat → Int32) × (Nat → Int32) × (Nat → Int32) => zW [[(aT, .inr (12, [.ref aCol, .int vTa, .ref aFa, .ref aRu, .int vRc, .ref aRo, .ref aLa, .ref aVa]))], [(aCol, .inl (tt 0, 5, .inl vCol))], [(aFa, .inl (tt 6, 5, .inr (.inr (.inr (.inr (fun j => some (eFa j)))))))], (wA eFa (tt 2) 5 512 vFa), [(aRu, .inl (tt 5, 5, .inr (.inr (.inr (.inr (fun j => some (eRu j)))))))], (wA eRu (tt 0) 5 25 vRu), [(aRo, .inl (tt 6, 5, .inr (.inr (.inr (.inr (fun j => some (eRo j)))))))], (wA eRo (tt 2) 5 512 u.1), [(aLa, .inl (tt 0, 5, .inl u.2.1))], [(aVa, .inl (tt 0, 4, .inl u.2.2))]])) A) ([.ref aT] : List Value).toArray s 0 0 A) (F0 m 71 ls []) := by
            intro k71
            induction k71 with
            | zero => intro x1 x2 x3 x4 vRo vLa vVa H locs ls hF; rw [hX13_follows_71] at hF; cases hF
            | succ k71 ih71 =>
              have hb116 : ∀ (x1 : Int32) (x2 : Int32) (x3 : Int32) (x4 : Int32) (vRo : Nat → Nat → Int32) (vLa : Nat → Int32) (vVa : Nat → Int32)  (H : Heap) (locs : List Loc) (ls : Array Slot), hX13_follows_116 K vRc vCol vFa vRu (hX13_follows_51 K vRc vCol vFa vRu k51) (hX13_follows_62 K vRc vCol vFa vRu (hX13_follows_51 K vRc vCol vFa vRu k51) k62) (hX13_follows_71 K vRc vCol vFa vRu (hX13_follows_51 K vRc vCol vFa vRu k51) (hX13_follows_62 K vRc vCol vFa vRu (hX13_follows_51 K vRc vCol vFa vRu k51) k62) k71) x1 x2 x3 x4 vRo vLa vVa = some RR → va_P G vwCl (zW [[(aT, .inr (12, [.ref aCol, .int vTa, .ref aFa, .ref aRu, .int vRc, .ref aRo, .ref aLa, .ref aVa]))], [(aCol, .inl (tt 0, 5, .inl vCol))], [(aFa, .inl (tt 6, 5, .inr (.inr (.inr (.inr (fun j => some (eFa j)))))))], (wA eFa (tt 2) 5 512 vFa), [(aRu, .inl (tt 5, 5, .inr (.inr (.inr (.inr (fun j => some (eRu j)))))))], (wA eRu (tt 0) 5 25 vRu), [(aRo, .inl (tt 6, 5, .inr (.inr (.inr (.inr (fun j => some (eRo j)))))))], (wA eRo (tt 2) 5 512 vRo), [(aLa, .inl (tt 0, 5, .inl vLa))], [(aVa, .inl (tt 0, 4, .inl vVa))]]) H → va_D A (zW [[(aT, .inr (12, [.ref aCol, .int vTa, .ref aFa, .ref aRu, .int vRc, .ref aRo, .ref aLa, .ref aVa]))], [(aCol, .inl (tt 0, 5, .inl vCol))], [(aFa, .inl (tt 6, 5, .inr (.inr (.inr (.inr (fun j => some (eFa j)))))))], (wA eFa (tt 2) 5 512 vFa), [(aRu, .inl (tt 5, 5, .inr (.inr (.inr (.inr (fun j => some (eRu j)))))))], (wA eRu (tt 0) 5 25 vRu), [(aRo, .inl (tt 6, 5, .inr (.inr (.inr (.inr (fun j => some (eRo j)))))))], (wA eRo (tt 2) 5 512 vRo), [(aLa, .inl (tt 0, 5, .inl vLa))], [(aVa, .inl (tt 0, 4, .inl vVa))]]) → va_S A s.heap H locs → lv_has ls 5 [(0, .ref aT), (1, .int x1), (2, .int x2), (3, .int x3), (4, .int x4)] → W p l e (headSpec wsX13_follows ({ frames := 5, cells := 0, slots := 0, locals := 153 } : Room)).room s m ([.ref aT] : List Value).toArray below meth c H locs 0 0 (MQ below (va_Qv (fun u : (Nat → Nat → Int32) × (Nat → Int32) × (Nat → Int32) => u = RR) (zAt G (zTy tt) A (fun u : (Nat → Nat → Int32) × (Nat → Int32) × (Nat → Int32) => zW [[(aT, .inr (12, [.ref aCol, .int vTa, .ref aFa, .ref aRu, .int vRc, .ref aRo, .ref aLa, .ref aVa]))], [(aCol, .inl (tt 0, 5, .inl vCol))], [(aFa, .inl (tt 6, 5, .inr (.inr (.inr (.inr (fun j => some (eFa j)))))))], (wA eFa (tt 2) 5 512 vFa), [(aRu, .inl (tt 5, 5, .inr (.inr (.inr (.inr (fun j => some (eRu j)))))))], (wA eRu (tt 0) 5 25 vRu), [(aRo, .inl (tt 6, 5, .inr (.inr (.inr (.inr (fun j => some (eRo j)))))))], (wA eRo (tt 2) 5 512 u.1), [(aLa, .inl (tt 0, 5, .inl u.2.1))], [(aVa, .inl (tt 0, 4, .inl u.2.2))]])) A) ([.ref aT] : List Value).toArray s 0 0 A) (F0 m 116 ls []) := by
                intro x1 x2 x3 x4 vRo vLa vVa H locs ls hF hP hD hS hl
                unfold hX13_follows_116 at hF
                refine lv_iinc (v := (x4 + (1 : Int32))) (lv' := [(4, .int (x4 + (1 : Int32))), (0, .ref aT), (1, .int x1), (2, .int x2), (3, .int x3)]) hx hb dX13_follows_116 hl (k := 4) rfl rfl (by decide) rfl (fun ls hl => ?_)
                refine lv_goto (tgt := 71) hx hb dX13_follows_119 (by decide) ?_
                exact ih71 _ _ _ _ _ _ _ _ _ _ hF hP hD hS (lv_sub hl [1, 2, 3, 4, 0] rfl)
              intro x1 x2 x3 x4 vRo vLa vVa H locs ls hF hP hD hS hl
              rw [hX13_follows_71] at hF
              refine lv_iload hx hb dX13_follows_71 (lv_at hl 4 rfl) ?_
              refine lv_aload_n hx hb dX13_follows_73 rfl (lv_at hl 0 rfl) ?_
              obtain ⟨k_74, hk_74, hs_74⟩ := zS_one hP 0 rfl
              refine va_get (D := G) (ci := 12) (v := .int vRc) (C := RX13) (T := TX13) (N := 8) hx hb hts hiX13 hown hK hP k_74 hk_74 rfl 4 (by decide) (hts (.fieldLink RX13 56 "LeapTablesLaw$Told" "ruleCount" "I") (List.mem_of_getElem? (i := 3) rfl)) (fun _ h9 => h9) rfl dX13_follows_74 ?_
              refine lv_icmp_ge (tgt := 122) hx hb dX13_follows_77 (by decide) (fun c_77 => ?_) (fun c_77 => ?_)
              · have hF := z_t c_77 hF
                refine lv_goto (tgt := 62) hx hb dX13_follows_122 (by decide) ?_
                exact ih62 _ _ _ _ _ _ _ _ _ hF hP hD hS (lv_sub hl [0, 1, 2, 3] rfl)
              · have hF := z_f c_77 hF
                refine lv_aload_n hx hb dX13_follows_80 rfl (lv_at hl 0 rfl) ?_
                obtain ⟨k_81, hk_81, hs_81⟩ := zS_one hP 0 rfl
                refine va_get (D := G) (ci := 12) (v := .ref aLa) (C := RX13) (T := TX13) (N := 8) hx hb hts hiX13 hown hK hP k_81 hk_81 rfl 6 (by decide) (hts (.fieldLink RX13 32 "LeapTablesLaw$Told" "layers" "[I") (List.mem_of_getElem? (i := 4) rfl)) (fun _ h9 => h9) rfl dX13_follows_81 ?_
                refine lv_aload_n hx hb dX13_follows_84 rfl (lv_at hl 0 rfl) ?_
                obtain ⟨k_85, hk_85, hs_85⟩ := zS_one hP 0 rfl
                refine va_get (D := G) (ci := 12) (v := .ref aRu) (C := RX13) (T := TX13) (N := 8) hx hb hts hiX13 hown hK hP k_85 hk_85 rfl 3 (by decide) (hts (.fieldLink RX13 26 "LeapTablesLaw$Told" "rules" "[[I") (List.mem_of_getElem? (i := 5) rfl)) (fun _ h9 => h9) rfl dX13_follows_85 ?_
                refine lv_iload hx hb dX13_follows_88 (lv_at hl 4 rfl) ?_
                obtain ⟨h_90, hF⟩ := z_in hF
                obtain ⟨k_90, hk_90, hs_90⟩ := zS_one hP 4 rfl
                refine zA_aald (f := eRu) hx hb hK hP k_90 5 hk_90 rfl h_90 dX13_follows_90 ?_
                refine lv_iconst (v := (0 : Int32)) hx hb dX13_follows_91 (by decide) ?_
                obtain ⟨h_92, hF⟩ := z_in hF
                obtain ⟨k_92, hk_92, hs_92⟩ := zS_fam hP 5 rfl (zlt_of h_90)
                refine va_iald hx hb hK hP k_92 0 hk_92 rfl h_92 dX13_follows_92 ?_
                obtain ⟨h_93, hF⟩ := z_in hF
                obtain ⟨k_93, hk_93, hs_93⟩ := zS_one hP 8 rfl
                refine va_iald hx hb hK hP k_93 0 hk_93 rfl h_93 dX13_follows_93 ?_
                refine lv_iload_n hx hb dX13_follows_94 rfl (lv_at hl 2 rfl) ?_
                refine lv_icmp_ne (tgt := 116) hx hb dX13_follows_95 (by decide) (fun c_95 => ?_) (fun c_95 => ?_)
                · have hF := z_f c_95 hF
                  exact hb116 _ _ _ _ _ _ _ _ _ _ hF hP hD hS (lv_sub hl [0, 1, 2, 3, 4] rfl)
                · have hF := z_t c_95 hF
                  refine lv_aload_n hx hb dX13_follows_98 rfl (lv_at hl 0 rfl) ?_
                  refine lv_iload hx hb dX13_follows_99 (lv_at hl 4 rfl) ?_
                  obtain ⟨q101, hc_101, hF⟩ := z_bind hF
                  have hp_101 : (zW [[(aT, .inr (12, [.ref aCol, .int vTa, .ref aFa, .ref aRu, .int vRc, .ref aRo, .ref aLa, .ref aVa]))], [(aCol, .inl (tt 0, 5, .inl vCol))], [(aFa, .inl (tt 6, 5, .inr (.inr (.inr (.inr (fun j => some (eFa j)))))))], (wA eFa (tt 2) 5 512 vFa), [(aRu, .inl (tt 5, 5, .inr (.inr (.inr (.inr (fun j => some (eRu j)))))))], (wA eRu (tt 0) 5 25 vRu), [(aRo, .inl (tt 6, 5, .inr (.inr (.inr (.inr (fun j => some (eRo j)))))))], (wA eRo (tt 2) 5 512 vRo), [(aLa, .inl (tt 0, 5, .inl vLa))], [(aVa, .inl (tt 0, 4, .inl vVa))]]).Perm (zW [[(aT, .inr (12, [.ref aCol, .int vTa, .ref aFa, .ref aRu, .int vRc, .ref aRo, .ref aLa, .ref aVa]))], [(aCol, .inl (tt 0, 5, .inl vCol))], [(aRu, .inl (tt 5, 5, .inr (.inr (.inr (.inr (fun j => some (eRu j)))))))], (wA eRu (tt 0) 5 25 vRu)] ++ zW [[(aFa, .inl (tt 6, 5, .inr (.inr (.inr (.inr (fun j => some (eFa j)))))))], (wA eFa (tt 2) 5 512 vFa), [(aRo, .inl (tt 6, 5, .inr (.inr (.inr (.inr (fun j => some (eRo j)))))))], (wA eRo (tt 2) 5 512 vRo), [(aLa, .inl (tt 0, 5, .inl vLa))], [(aVa, .inl (tt 0, 4, .inl vVa))]]) := zS_cut (is := [0, 1, 4, 5]) (js := [2, 3, 6, 7, 8, 9]) 10 rfl rfl rfl (by decide)
                  refine s_backi (s_goV (As := [.int x4]) (rest := []) (ci := 12) ⟨hx, hb, hml, hown, hts⟩ hK hN hX hO hAA hp_101 hP hD hS hA (oX13_isIdle l G tt sa hlt H.size K aT aCol aFa aRu aRo aLa aVa eRu vTa vRc vCol vRu x4 q101 hc_101) (cwV 1 hts gX13_follows_X13_isIdle rfl rfl rfl (by decide +kernel) ⟨Nat.le_of_ble_eq_true rfl, Nat.le_of_ble_eq_true rfl⟩) rfl rfl rfl hl.1 rfl (Nat.le_of_ble_eq_true rfl) dX13_follows_101 ⟨Nat.le_of_ble_eq_true rfl, Nat.le_of_ble_eq_true rfl⟩) hp_101 hP hD hS hA (fun r_101 u H locs hw hP hD hS => ?_)
                  replace hw := hw.symm; subst hw
                  have hP : va_P G vwCl (zW [[(aFa, .inl (tt 6, 5, .inr (.inr (.inr (.inr (fun j => some (eFa j)))))))], (wA eFa (tt 2) 5 512 vFa), [(aRo, .inl (tt 6, 5, .inr (.inr (.inr (.inr (fun j => some (eRo j)))))))], (wA eRo (tt 2) 5 512 vRo), [(aLa, .inl (tt 0, 5, .inl vLa))], [(aVa, .inl (tt 0, 4, .inl vVa))], [(aT, .inr (12, [.ref aCol, .int vTa, .ref aFa, .ref aRu, .int vRc, .ref aRo, .ref aLa, .ref aVa]))], [(aCol, .inl (tt 0, 5, .inl vCol))], [(aRu, .inl (tt 5, 5, .inr (.inr (.inr (.inr (fun j => some (eRu j)))))))], (wA eRu (tt 0) 5 25 vRu)]) H := hP
                  have hD : va_D A (zW [[(aFa, .inl (tt 6, 5, .inr (.inr (.inr (.inr (fun j => some (eFa j)))))))], (wA eFa (tt 2) 5 512 vFa), [(aRo, .inl (tt 6, 5, .inr (.inr (.inr (.inr (fun j => some (eRo j)))))))], (wA eRo (tt 2) 5 512 vRo), [(aLa, .inl (tt 0, 5, .inl vLa))], [(aVa, .inl (tt 0, 4, .inl vVa))], [(aT, .inr (12, [.ref aCol, .int vTa, .ref aFa, .ref aRu, .int vRc, .ref aRo, .ref aLa, .ref aVa]))], [(aCol, .inl (tt 0, 5, .inl vCol))], [(aRu, .inl (tt 5, 5, .inr (.inr (.inr (.inr (fun j => some (eRu j)))))))], (wA eRu (tt 0) 5 25 vRu)]) := hD
                  refine lv_if_ne (tgt := 116) hx hb dX13_follows_104 (by decide) (fun c_104 => ?_) (fun c_104 => ?_)
                  · have hF := z_f c_104 hF
                    have hpj : (zW [[(aFa, .inl (tt 6, 5, .inr (.inr (.inr (.inr (fun j => some (eFa j)))))))], (wA eFa (tt 2) 5 512 vFa), [(aRo, .inl (tt 6, 5, .inr (.inr (.inr (.inr (fun j => some (eRo j)))))))], (wA eRo (tt 2) 5 512 vRo), [(aLa, .inl (tt 0, 5, .inl vLa))], [(aVa, .inl (tt 0, 4, .inl vVa))], [(aT, .inr (12, [.ref aCol, .int vTa, .ref aFa, .ref aRu, .int vRc, .ref aRo, .ref aLa, .ref aVa]))], [(aCol, .inl (tt 0, 5, .inl vCol))], [(aRu, .inl (tt 5, 5, .inr (.inr (.inr (.inr (fun j => some (eRu j)))))))], (wA eRu (tt 0) 5 25 vRu)]).Perm (zW [[(aT, .inr (12, [.ref aCol, .int vTa, .ref aFa, .ref aRu, .int vRc, .ref aRo, .ref aLa, .ref aVa]))], [(aCol, .inl (tt 0, 5, .inl vCol))], [(aFa, .inl (tt 6, 5, .inr (.inr (.inr (.inr (fun j => some (eFa j)))))))], (wA eFa (tt 2) 5 512 vFa), [(aRu, .inl (tt 5, 5, .inr (.inr (.inr (.inr (fun j => some (eRu j)))))))], (wA eRu (tt 0) 5 25 vRu), [(aRo, .inl (tt 6, 5, .inr (.inr (.inr (.inr (fun j => some (eRo j)))))))], (wA eRo (tt 2) 5 512 vRo), [(aLa, .inl (tt 0, 5, .inl vLa))], [(aVa, .inl (tt 0, 4, .inl vVa))]] ++ zW []) := zS_cut (is := [6, 7, 0, 1, 8, 9, 2, 3, 4, 5]) (js := []) 10 rfl rfl rfl (by decide)
                    exact hb116 _ _ _ _ _ _ _ _ _ _ hF (zS_subP hpj hP) (zS_subD hpj hD) hS (lv_sub hl [0, 1, 2, 3, 4] rfl)
                  · have hF := z_t c_104 hF
                    refine lv_iload_n hx hb dX13_follows_107 rfl (lv_at hl 3 rfl) ?_
                    refine lv_aload_n hx hb dX13_follows_108 rfl (lv_at hl 0 rfl) ?_
                    refine lv_iload hx hb dX13_follows_109 (lv_at hl 4 rfl) ?_
                    obtain ⟨q111, hc_111, hF⟩ := z_bind hF
                    have hp_111 : (zW [[(aFa, .inl (tt 6, 5, .inr (.inr (.inr (.inr (fun j => some (eFa j)))))))], (wA eFa (tt 2) 5 512 vFa), [(aRo, .inl (tt 6, 5, .inr (.inr (.inr (.inr (fun j => some (eRo j)))))))], (wA eRo (tt 2) 5 512 vRo), [(aLa, .inl (tt 0, 5, .inl vLa))], [(aVa, .inl (tt 0, 4, .inl vVa))], [(aT, .inr (12, [.ref aCol, .int vTa, .ref aFa, .ref aRu, .int vRc, .ref aRo, .ref aLa, .ref aVa]))], [(aCol, .inl (tt 0, 5, .inl vCol))], [(aRu, .inl (tt 5, 5, .inr (.inr (.inr (.inr (fun j => some (eRu j)))))))], (wA eRu (tt 0) 5 25 vRu)]).Perm (zW [[(aT, .inr (12, [.ref aCol, .int vTa, .ref aFa, .ref aRu, .int vRc, .ref aRo, .ref aLa, .ref aVa]))], [(aCol, .inl (tt 0, 5, .inl vCol))], [(aRu, .inl (tt 5, 5, .inr (.inr (.inr (.inr (fun j => some (eRu j)))))))], (wA eRu (tt 0) 5 25 vRu), [(aRo, .inl (tt 6, 5, .inr (.inr (.inr (.inr (fun j => some (eRo j)))))))], (wA eRo (tt 2) 5 512 vRo), [(aVa, .inl (tt 0, 4, .inl vVa))]] ++ zW [[(aFa, .inl (tt 6, 5, .inr (.inr (.inr (.inr (fun j => some (eFa j)))))))], (wA eFa (tt 2) 5 512 vFa), [(aLa, .inl (tt 0, 5, .inl vLa))]]) := zS_cut (is := [6, 7, 8, 9, 2, 3, 5]) (js := [0, 1, 4]) 10 rfl rfl rfl (by decide)
                    refine s_backi (s_goV (As := [.int x4]) (rest := [.int x3]) (ci := 12) ⟨hx, hb, hml, hown, hts⟩ hK hN hX hO hAA hp_111 hP hD hS hA (oX13_applies l G tt sa hlt H.size K aT aCol aFa aRu aRo aLa aVa eRu eRo vTa vRc vCol vRu vRo vVa x4 q111 hc_111) (cwV 1 hts gX13_follows_X13_applies rfl rfl rfl (by decide +kernel) ⟨Nat.le_of_ble_eq_true rfl, Nat.le_of_ble_eq_true rfl⟩) rfl rfl rfl hl.1 rfl (Nat.le_of_ble_eq_true rfl) dX13_follows_111 ⟨Nat.le_of_ble_eq_true rfl, Nat.le_of_ble_eq_true rfl⟩) hp_111 hP hD hS hA (fun r_111 u H locs hw hP hD hS => ?_)
                    obtain ⟨rfl, rfl⟩ := hw
                    have hP : va_P G vwCl (zW [[(aFa, .inl (tt 6, 5, .inr (.inr (.inr (.inr (fun j => some (eFa j)))))))], (wA eFa (tt 2) 5 512 vFa), [(aLa, .inl (tt 0, 5, .inl vLa))], [(aT, .inr (12, [.ref aCol, .int vTa, .ref aFa, .ref aRu, .int vRc, .ref aRo, .ref aLa, .ref aVa]))], [(aCol, .inl (tt 0, 5, .inl vCol))], [(aRu, .inl (tt 5, 5, .inr (.inr (.inr (.inr (fun j => some (eRu j)))))))], (wA eRu (tt 0) 5 25 vRu), [(aRo, .inl (tt 6, 5, .inr (.inr (.inr (.inr (fun j => some (eRo j)))))))], (wA eRo (tt 2) 5 512 q111.2.1), [(aVa, .inl (tt 0, 4, .inl q111.2.2))]]) H := hP
                    have hD : va_D A (zW [[(aFa, .inl (tt 6, 5, .inr (.inr (.inr (.inr (fun j => some (eFa j)))))))], (wA eFa (tt 2) 5 512 vFa), [(aLa, .inl (tt 0, 5, .inl vLa))], [(aT, .inr (12, [.ref aCol, .int vTa, .ref aFa, .ref aRu, .int vRc, .ref aRo, .ref aLa, .ref aVa]))], [(aCol, .inl (tt 0, 5, .inl vCol))], [(aRu, .inl (tt 5, 5, .inr (.inr (.inr (.inr (fun j => some (eRu j)))))))], (wA eRu (tt 0) 5 25 vRu), [(aRo, .inl (tt 6, 5, .inr (.inr (.inr (.inr (fun j => some (eRo j)))))))], (wA eRo (tt 2) 5 512 q111.2.1), [(aVa, .inl (tt 0, 4, .inl q111.2.2))]]) := hD
                    refine lv_ior hx hb dX13_follows_114 ?_
                    refine lv_istore_n (lv' := [(3, .int (x3 ||| (bI q111.1))), (0, .ref aT), (1, .int x1), (2, .int x2), (4, .int x4)]) hx hb dX13_follows_115 rfl hl (by decide) rfl (fun ls hl => ?_)
                    have hpj : (zW [[(aFa, .inl (tt 6, 5, .inr (.inr (.inr (.inr (fun j => some (eFa j)))))))], (wA eFa (tt 2) 5 512 vFa), [(aLa, .inl (tt 0, 5, .inl vLa))], [(aT, .inr (12, [.ref aCol, .int vTa, .ref aFa, .ref aRu, .int vRc, .ref aRo, .ref aLa, .ref aVa]))], [(aCol, .inl (tt 0, 5, .inl vCol))], [(aRu, .inl (tt 5, 5, .inr (.inr (.inr (.inr (fun j => some (eRu j)))))))], (wA eRu (tt 0) 5 25 vRu), [(aRo, .inl (tt 6, 5, .inr (.inr (.inr (.inr (fun j => some (eRo j)))))))], (wA eRo (tt 2) 5 512 q111.2.1), [(aVa, .inl (tt 0, 4, .inl q111.2.2))]]).Perm (zW [[(aT, .inr (12, [.ref aCol, .int vTa, .ref aFa, .ref aRu, .int vRc, .ref aRo, .ref aLa, .ref aVa]))], [(aCol, .inl (tt 0, 5, .inl vCol))], [(aFa, .inl (tt 6, 5, .inr (.inr (.inr (.inr (fun j => some (eFa j)))))))], (wA eFa (tt 2) 5 512 vFa), [(aRu, .inl (tt 5, 5, .inr (.inr (.inr (.inr (fun j => some (eRu j)))))))], (wA eRu (tt 0) 5 25 vRu), [(aRo, .inl (tt 6, 5, .inr (.inr (.inr (.inr (fun j => some (eRo j)))))))], (wA eRo (tt 2) 5 512 q111.2.1), [(aLa, .inl (tt 0, 5, .inl vLa))], [(aVa, .inl (tt 0, 4, .inl q111.2.2))]] ++ zW []) := zS_cut (is := [3, 4, 0, 1, 5, 6, 7, 8, 2, 9]) (js := []) 10 rfl rfl rfl (by decide)
                    exact hb116 _ _ _ _ _ _ _ _ _ _ hF (zS_subP hpj hP) (zS_subD hpj hD) hS (lv_sub hl [1, 2, 3, 0, 4] rfl)
          intro x1 x2 x3 vRo vLa vVa H locs ls hF hP hD hS hl
          rw [hX13_follows_62] at hF
          refine lv_iload_n hx hb dX13_follows_62 rfl (lv_at hl 3 rfl) ?_
          refine lv_if_eq (tgt := 125) hx hb dX13_follows_63 (by decide) (fun c_63 => ?_) (fun c_63 => ?_)
          · have hF := z_t c_63 hF
            refine lv_iinc (v := (x2 + (1 : Int32))) (lv' := [(2, .int (x2 + (1 : Int32))), (0, .ref aT), (1, .int x1), (3, .int x3)]) hx hb dX13_follows_125 hl (k := 2) rfl rfl (by decide) rfl (fun ls hl => ?_)
            refine lv_goto (tgt := 51) hx hb dX13_follows_128 (by decide) ?_
            exact ih51 _ _ _ _ _ _ _ _ hF hP hD hS (lv_sub hl [1, 2, 0] rfl)
          · have hF := z_f c_63 hF
            refine lv_iconst (v := (0 : Int32)) hx hb dX13_follows_66 (by decide) ?_
            refine lv_istore_n (lv' := [(3, .int (0 : Int32)), (0, .ref aT), (1, .int x1), (2, .int x2)]) hx hb dX13_follows_67 rfl hl (by decide) rfl (fun ls hl => ?_)
            refine lv_iconst (v := (0 : Int32)) hx hb dX13_follows_68 (by decide) ?_
            refine lv_istore (lv' := [(4, .int (0 : Int32)), (3, .int (0 : Int32)), (0, .ref aT), (1, .int x1), (2, .int x2)]) hx hb dX13_follows_69 hl (by decide) rfl (fun ls hl => ?_)
            exact hb71 K _ _ _ _ _ _ _ _ _ _ hF hP hD hS (lv_sub hl [2, 3, 4, 1, 0] rfl)
      intro x1 x2 vRo vLa vVa H locs ls hF hP hD hS hl
      rw [hX13_follows_51] at hF
      refine lv_iload_n hx hb dX13_follows_51 rfl (lv_at hl 2 rfl) ?_
      refine lv_iconst (v := (5 : Int32)) hx hb dX13_follows_52 (by decide) ?_
      refine lv_icmp_ge (tgt := 131) hx hb dX13_follows_53 (by decide) (fun c_53 => ?_) (fun c_53 => ?_)
      · have hF := z_t c_53 hF
        have hp9 : (zW [[(aT, .inr (12, [.ref aCol, .int vTa, .ref aFa, .ref aRu, .int vRc, .ref aRo, .ref aLa, .ref aVa]))], [(aCol, .inl (tt 0, 5, .inl vCol))], [(aFa, .inl (tt 6, 5, .inr (.inr (.inr (.inr (fun j => some (eFa j)))))))], (wA eFa (tt 2) 5 512 vFa), [(aRu, .inl (tt 5, 5, .inr (.inr (.inr (.inr (fun j => some (eRu j)))))))], (wA eRu (tt 0) 5 25 vRu), [(aRo, .inl (tt 6, 5, .inr (.inr (.inr (.inr (fun j => some (eRo j)))))))], (wA eRo (tt 2) 5 512 vRo), [(aLa, .inl (tt 0, 5, .inl vLa))], [(aVa, .inl (tt 0, 4, .inl vVa))]]).Perm (zW [[(aT, .inr (12, [.ref aCol, .int vTa, .ref aFa, .ref aRu, .int vRc, .ref aRo, .ref aLa, .ref aVa]))], [(aCol, .inl (tt 0, 5, .inl vCol))], [(aFa, .inl (tt 6, 5, .inr (.inr (.inr (.inr (fun j => some (eFa j)))))))], (wA eFa (tt 2) 5 512 vFa), [(aRu, .inl (tt 5, 5, .inr (.inr (.inr (.inr (fun j => some (eRu j)))))))], (wA eRu (tt 0) 5 25 vRu), [(aRo, .inl (tt 6, 5, .inr (.inr (.inr (.inr (fun j => some (eRo j)))))))], (wA eRo (tt 2) 5 512 vRo), [(aLa, .inl (tt 0, 5, .inl vLa))], [(aVa, .inl (tt 0, 4, .inl vVa))]] ++ zW []) := zS_cut (is := [0, 1, 2, 3, 4, 5, 6, 7, 8, 9]) (js := []) 10 rfl rfl rfl (by decide)
        have hP9 : va_P G vwCl (zW [[(aT, .inr (12, [.ref aCol, .int vTa, .ref aFa, .ref aRu, .int vRc, .ref aRo, .ref aLa, .ref aVa]))], [(aCol, .inl (tt 0, 5, .inl vCol))], [(aFa, .inl (tt 6, 5, .inr (.inr (.inr (.inr (fun j => some (eFa j)))))))], (wA eFa (tt 2) 5 512 vFa), [(aRu, .inl (tt 5, 5, .inr (.inr (.inr (.inr (fun j => some (eRu j)))))))], (wA eRu (tt 0) 5 25 vRu), [(aRo, .inl (tt 6, 5, .inr (.inr (.inr (.inr (fun j => some (eRo j)))))))], (wA eRo (tt 2) 5 512 vRo), [(aLa, .inl (tt 0, 5, .inl vLa))], [(aVa, .inl (tt 0, 4, .inl vVa))]]) H := zS_subP hp9 hP
        have hD9 : va_D A (zW [[(aT, .inr (12, [.ref aCol, .int vTa, .ref aFa, .ref aRu, .int vRc, .ref aRo, .ref aLa, .ref aVa]))], [(aCol, .inl (tt 0, 5, .inl vCol))], [(aFa, .inl (tt 6, 5, .inr (.inr (.inr (.inr (fun j => some (eFa j)))))))], (wA eFa (tt 2) 5 512 vFa), [(aRu, .inl (tt 5, 5, .inr (.inr (.inr (.inr (fun j => some (eRu j)))))))], (wA eRu (tt 0) 5 25 vRu), [(aRo, .inl (tt 6, 5, .inr (.inr (.inr (.inr (fun j => some (eRo j)))))))], (wA eRo (tt 2) 5 512 vRo), [(aLa, .inl (tt 0, 5, .inl vLa))], [(aVa, .inl (tt 0, 4, .inl vVa))]]) := zS_subD hp9 hD
        have hR := Option.some.inj hF
        exact W.vret hx hb hr (fun t ht hW => ⟨⟨(vRo, vLa, vVa), rfl, (by subst hR; rfl), by rw [ht]; exact hP9, va_K.moved hW.alike hK, hD9⟩, hS.F ht⟩) hS.2.2 dX13_follows_131
      · have hF := z_f c_53 hF
        refine lv_iload_n hx hb dX13_follows_56 rfl (lv_at hl 1 rfl) ?_
        refine lv_if_eq (tgt := 131) hx hb dX13_follows_57 (by decide) (fun c_57 => ?_) (fun c_57 => ?_)
        · have hF := z_t c_57 hF
          have hp9 : (zW [[(aT, .inr (12, [.ref aCol, .int vTa, .ref aFa, .ref aRu, .int vRc, .ref aRo, .ref aLa, .ref aVa]))], [(aCol, .inl (tt 0, 5, .inl vCol))], [(aFa, .inl (tt 6, 5, .inr (.inr (.inr (.inr (fun j => some (eFa j)))))))], (wA eFa (tt 2) 5 512 vFa), [(aRu, .inl (tt 5, 5, .inr (.inr (.inr (.inr (fun j => some (eRu j)))))))], (wA eRu (tt 0) 5 25 vRu), [(aRo, .inl (tt 6, 5, .inr (.inr (.inr (.inr (fun j => some (eRo j)))))))], (wA eRo (tt 2) 5 512 vRo), [(aLa, .inl (tt 0, 5, .inl vLa))], [(aVa, .inl (tt 0, 4, .inl vVa))]]).Perm (zW [[(aT, .inr (12, [.ref aCol, .int vTa, .ref aFa, .ref aRu, .int vRc, .ref aRo, .ref aLa, .ref aVa]))], [(aCol, .inl (tt 0, 5, .inl vCol))], [(aFa, .inl (tt 6, 5, .inr (.inr (.inr (.inr (fun j => some (eFa j)))))))], (wA eFa (tt 2) 5 512 vFa), [(aRu, .inl (tt 5, 5, .inr (.inr (.inr (.inr (fun j => some (eRu j)))))))], (wA eRu (tt 0) 5 25 vRu), [(aRo, .inl (tt 6, 5, .inr (.inr (.inr (.inr (fun j => some (eRo j)))))))], (wA eRo (tt 2) 5 512 vRo), [(aLa, .inl (tt 0, 5, .inl vLa))], [(aVa, .inl (tt 0, 4, .inl vVa))]] ++ zW []) := zS_cut (is := [0, 1, 2, 3, 4, 5, 6, 7, 8, 9]) (js := []) 10 rfl rfl rfl (by decide)
          have hP9 : va_P G vwCl (zW [[(aT, .inr (12, [.ref aCol, .int vTa, .ref aFa, .ref aRu, .int vRc, .ref aRo, .ref aLa, .ref aVa]))], [(aCol, .inl (tt 0, 5, .inl vCol))], [(aFa, .inl (tt 6, 5, .inr (.inr (.inr (.inr (fun j => some (eFa j)))))))], (wA eFa (tt 2) 5 512 vFa), [(aRu, .inl (tt 5, 5, .inr (.inr (.inr (.inr (fun j => some (eRu j)))))))], (wA eRu (tt 0) 5 25 vRu), [(aRo, .inl (tt 6, 5, .inr (.inr (.inr (.inr (fun j => some (eRo j)))))))], (wA eRo (tt 2) 5 512 vRo), [(aLa, .inl (tt 0, 5, .inl vLa))], [(aVa, .inl (tt 0, 4, .inl vVa))]]) H := zS_subP hp9 hP
          have hD9 : va_D A (zW [[(aT, .inr (12, [.ref aCol, .int vTa, .ref aFa, .ref aRu, .int vRc, .ref aRo, .ref aLa, .ref aVa]))], [(aCol, .inl (tt 0, 5, .inl vCol))], [(aFa, .inl (tt 6, 5, .inr (.inr (.inr (.inr (fun j => some (eFa j)))))))], (wA eFa (tt 2) 5 512 vFa), [(aRu, .inl (tt 5, 5, .inr (.inr (.inr (.inr (fun j => some (eRu j)))))))], (wA eRu (tt 0) 5 25 vRu), [(aRo, .inl (tt 6, 5, .inr (.inr (.inr (.inr (fun j => some (eRo j)))))))], (wA eRo (tt 2) 5 512 vRo), [(aLa, .inl (tt 0, 5, .inl vLa))], [(aVa, .inl (tt 0, 4, .inl vVa))]]) := zS_subD hp9 hD
          have hR := Option.some.inj hF
          exact W.vret hx hb hr (fun t ht hW => ⟨⟨(vRo, vLa, vVa), rfl, (by subst hR; rfl), by rw [ht]; exact hP9, va_K.moved hW.alike hK, hD9⟩, hS.F ht⟩) hS.2.2 dX13_follows_131
        · have hF := z_f c_57 hF
          refine lv_iconst (v := (1 : Int32)) hx hb dX13_follows_60 (by decide) ?_
          refine lv_istore_n (lv' := [(3, .int (1 : Int32)), (0, .ref aT), (1, .int x1), (2, .int x2)]) hx hb dX13_follows_61 rfl hl (by decide) rfl (fun ls hl => ?_)
          exact hb62 K _ _ _ _ _ _ _ _ _ hF hP hD hS (lv_sub hl [1, 2, 3, 0] rfl)
  have hb7 : ∀ (k7 : Nat), ∀ (x1 : Int32) (x2 : Int32) (vRo : Nat → Nat → Int32) (vLa : Nat → Int32) (vVa : Nat → Int32)  (H : Heap) (locs : List Loc) (ls : Array Slot), hX13_follows_7 K vRc vCol vFa vRu k7 x1 x2 vRo vLa vVa = some RR → va_P G vwCl (zW [[(aT, .inr (12, [.ref aCol, .int vTa, .ref aFa, .ref aRu, .int vRc, .ref aRo, .ref aLa, .ref aVa]))], [(aCol, .inl (tt 0, 5, .inl vCol))], [(aFa, .inl (tt 6, 5, .inr (.inr (.inr (.inr (fun j => some (eFa j)))))))], (wA eFa (tt 2) 5 512 vFa), [(aRu, .inl (tt 5, 5, .inr (.inr (.inr (.inr (fun j => some (eRu j)))))))], (wA eRu (tt 0) 5 25 vRu), [(aRo, .inl (tt 6, 5, .inr (.inr (.inr (.inr (fun j => some (eRo j)))))))], (wA eRo (tt 2) 5 512 vRo), [(aLa, .inl (tt 0, 5, .inl vLa))], [(aVa, .inl (tt 0, 4, .inl vVa))]]) H → va_D A (zW [[(aT, .inr (12, [.ref aCol, .int vTa, .ref aFa, .ref aRu, .int vRc, .ref aRo, .ref aLa, .ref aVa]))], [(aCol, .inl (tt 0, 5, .inl vCol))], [(aFa, .inl (tt 6, 5, .inr (.inr (.inr (.inr (fun j => some (eFa j)))))))], (wA eFa (tt 2) 5 512 vFa), [(aRu, .inl (tt 5, 5, .inr (.inr (.inr (.inr (fun j => some (eRu j)))))))], (wA eRu (tt 0) 5 25 vRu), [(aRo, .inl (tt 6, 5, .inr (.inr (.inr (.inr (fun j => some (eRo j)))))))], (wA eRo (tt 2) 5 512 vRo), [(aLa, .inl (tt 0, 5, .inl vLa))], [(aVa, .inl (tt 0, 4, .inl vVa))]]) → va_S A s.heap H locs → lv_has ls 5 [(0, .ref aT), (1, .int x1), (2, .int x2)] → W p l e (headSpec wsX13_follows ({ frames := 5, cells := 0, slots := 0, locals := 153 } : Room)).room s m ([.ref aT] : List Value).toArray below meth c H locs 0 0 (MQ below (va_Qv (fun u : (Nat → Nat → Int32) × (Nat → Int32) × (Nat → Int32) => u = RR) (zAt G (zTy tt) A (fun u : (Nat → Nat → Int32) × (Nat → Int32) × (Nat → Int32) => zW [[(aT, .inr (12, [.ref aCol, .int vTa, .ref aFa, .ref aRu, .int vRc, .ref aRo, .ref aLa, .ref aVa]))], [(aCol, .inl (tt 0, 5, .inl vCol))], [(aFa, .inl (tt 6, 5, .inr (.inr (.inr (.inr (fun j => some (eFa j)))))))], (wA eFa (tt 2) 5 512 vFa), [(aRu, .inl (tt 5, 5, .inr (.inr (.inr (.inr (fun j => some (eRu j)))))))], (wA eRu (tt 0) 5 25 vRu), [(aRo, .inl (tt 6, 5, .inr (.inr (.inr (.inr (fun j => some (eRo j)))))))], (wA eRo (tt 2) 5 512 u.1), [(aLa, .inl (tt 0, 5, .inl u.2.1))], [(aVa, .inl (tt 0, 4, .inl u.2.2))]])) A) ([.ref aT] : List Value).toArray s 0 0 A) (F0 m 7 ls []) := by
    intro k7
    induction k7 with
    | zero => intro x1 x2 vRo vLa vVa H locs ls hF; rw [hX13_follows_7] at hF; cases hF
    | succ k7 ih7 =>
      have hb14 : ∀ (k14 : Nat), ∀ (x1 : Int32) (x2 : Int32) (x3 : Int32) (vRo : Nat → Nat → Int32) (vLa : Nat → Int32) (vVa : Nat → Int32)  (H : Heap) (locs : List Loc) (ls : Array Slot), hX13_follows_14 K vRc vCol vFa vRu (hX13_follows_7 K vRc vCol vFa vRu k7) k14 x1 x2 x3 vRo vLa vVa = some RR → va_P G vwCl (zW [[(aT, .inr (12, [.ref aCol, .int vTa, .ref aFa, .ref aRu, .int vRc, .ref aRo, .ref aLa, .ref aVa]))], [(aCol, .inl (tt 0, 5, .inl vCol))], [(aFa, .inl (tt 6, 5, .inr (.inr (.inr (.inr (fun j => some (eFa j)))))))], (wA eFa (tt 2) 5 512 vFa), [(aRu, .inl (tt 5, 5, .inr (.inr (.inr (.inr (fun j => some (eRu j)))))))], (wA eRu (tt 0) 5 25 vRu), [(aRo, .inl (tt 6, 5, .inr (.inr (.inr (.inr (fun j => some (eRo j)))))))], (wA eRo (tt 2) 5 512 vRo), [(aLa, .inl (tt 0, 5, .inl vLa))], [(aVa, .inl (tt 0, 4, .inl vVa))]]) H → va_D A (zW [[(aT, .inr (12, [.ref aCol, .int vTa, .ref aFa, .ref aRu, .int vRc, .ref aRo, .ref aLa, .ref aVa]))], [(aCol, .inl (tt 0, 5, .inl vCol))], [(aFa, .inl (tt 6, 5, .inr (.inr (.inr (.inr (fun j => some (eFa j)))))))], (wA eFa (tt 2) 5 512 vFa), [(aRu, .inl (tt 5, 5, .inr (.inr (.inr (.inr (fun j => some (eRu j)))))))], (wA eRu (tt 0) 5 25 vRu), [(aRo, .inl (tt 6, 5, .inr (.inr (.inr (.inr (fun j => some (eRo j)))))))], (wA eRo (tt 2) 5 512 vRo), [(aLa, .inl (tt 0, 5, .inl vLa))], [(aVa, .inl (tt 0, 4, .inl vVa))]]) → va_S A s.heap H locs → lv_has ls 5 [(0, .ref aT), (1, .int x1), (2, .int x2), (3, .int x3)] → W p l e (headSpec wsX13_follows ({ frames := 5, cells := 0, slots := 0, locals := 153 } : Room)).room s m ([.ref aT] : List Value).toArray below meth c H locs 0 0 (MQ below (va_Qv (fun u : (Nat → Nat → Int32) × (Nat → Int32) × (Nat → Int32) => u = RR) (zAt G (zTy tt) A (fun u : (Nat → Nat → Int32) × (Nat → Int32) × (Nat → Int32) => zW [[(aT, .inr (12, [.ref aCol, .int vTa, .ref aFa, .ref aRu, .int vRc, .ref aRo, .ref aLa, .ref aVa]))], [(aCol, .inl (tt 0, 5, .inl vCol))], [(aFa, .inl (tt 6, 5, .inr (.inr (.inr (.inr (fun j => some (eFa j)))))))], (wA eFa (tt 2) 5 512 vFa), [(aRu, .inl (tt 5, 5, .inr (.inr (.inr (.inr (fun j => some (eRu j)))))))], (wA eRu (tt 0) 5 25 vRu), [(aRo, .inl (tt 6, 5, .inr (.inr (.inr (.inr (fun j => some (eRo j)))))))], (wA eRo (tt 2) 5 512 u.1), [(aLa, .inl (tt 0, 5, .inl u.2.1))], [(aVa, .inl (tt 0, 4, .inl u.2.2))]])) A) ([.ref aT] : List Value).toArray s 0 0 A) (F0 m 14 ls []) := by
        intro k14
        induction k14 with
        | zero => intro x1 x2 x3 vRo vLa vVa H locs ls hF; rw [hX13_follows_14] at hF; cases hF
        | succ k14 ih14 =>
          intro x1 x2 x3 vRo vLa vVa H locs ls hF hP hD hS hl
          rw [hX13_follows_14] at hF
          refine lv_iload_n hx hb dX13_follows_14 rfl (lv_at hl 3 rfl) ?_
          refine lv_sipush (v := (512 : Int32)) hx hb dX13_follows_15 (by decide) ?_
          refine lv_icmp_ge (tgt := 43) hx hb dX13_follows_18 (by decide) (fun c_18 => ?_) (fun c_18 => ?_)
          · have hF := z_t c_18 hF
            refine lv_iinc (v := (x2 + (1 : Int32))) (lv' := [(2, .int (x2 + (1 : Int32))), (0, .ref aT), (1, .int x1), (3, .int x3)]) hx hb dX13_follows_43 hl (k := 2) rfl rfl (by decide) rfl (fun ls hl => ?_)
            refine lv_goto (tgt := 7) hx hb dX13_follows_46 (by decide) ?_
            exact ih7 _ _ _ _ _ _ _ _ hF hP hD hS (lv_sub hl [1, 2, 0] rfl)
          · have hF := z_f c_18 hF
            refine lv_aload_n hx hb dX13_follows_21 rfl (lv_at hl 0 rfl) ?_
            obtain ⟨k_22, hk_22, hs_22⟩ := zS_one hP 0 rfl
            refine va_get (D := G) (ci := 12) (v := .ref aRo) (C := RX13) (T := TX13) (N := 8) hx hb hts hiX13 hown hK hP k_22 hk_22 rfl 5 (by decide) (hts (.fieldLink RX13 29 "LeapTablesLaw$Told" "rows" "[[Z") (List.mem_of_getElem? (i := 1) rfl)) (fun _ h9 => h9) rfl dX13_follows_22 ?_
            refine lv_iload_n hx hb dX13_follows_25 rfl (lv_at hl 2 rfl) ?_
            obtain ⟨h_26, hF⟩ := z_in hF
            obtain ⟨k_26, hk_26, hs_26⟩ := zS_one hP 6 rfl
            refine zA_aald (f := eRo) hx hb hK hP k_26 6 hk_26 rfl h_26 dX13_follows_26 ?_
            refine lv_iload_n hx hb dX13_follows_27 rfl (lv_at hl 3 rfl) ?_
            refine lv_aload_n hx hb dX13_follows_28 rfl (lv_at hl 0 rfl) ?_
            obtain ⟨k_29, hk_29, hs_29⟩ := zS_one hP 0 rfl
            refine va_get (D := G) (ci := 12) (v := .ref aFa) (C := RX13) (T := TX13) (N := 8) hx hb hts hiX13 hown hK hP k_29 hk_29 rfl 2 (by decide) (hts (.fieldLink RX13 21 "LeapTablesLaw$Told" "facts" "[[Z") (List.mem_of_getElem? (i := 2) rfl)) (fun _ h9 => h9) rfl dX13_follows_29 ?_
            refine lv_iload_n hx hb dX13_follows_32 rfl (lv_at hl 2 rfl) ?_
            obtain ⟨h_33, hF⟩ := z_in hF
            obtain ⟨k_33, hk_33, hs_33⟩ := zS_one hP 2 rfl
            refine zA_aald (f := eFa) hx hb hK hP k_33 6 hk_33 rfl h_33 dX13_follows_33 ?_
            refine lv_iload_n hx hb dX13_follows_34 rfl (lv_at hl 3 rfl) ?_
            obtain ⟨h_35, hF⟩ := z_in hF
            obtain ⟨k_35, hk_35, hs_35⟩ := zS_fam hP 3 rfl (zlt_of h_26)
            refine va_zald hx hb hK hP k_35 2 hk_35 rfl h_35 dX13_follows_35 ?_
            obtain ⟨h_36, hF⟩ := z_in hF
            obtain ⟨k_36, hk_36, hs_36⟩ := zS_fam hP 7 rfl (zlt_of h_26)
            refine va_zast hx hb hK hP hD hS k_36 2 hk_36 rfl h_36 dX13_follows_36 (fun H locs hP hD hS => ?_)
            rw [hs_36] at hP hD
            have hP : va_P G vwCl (zW [[(aT, .inr (12, [.ref aCol, .int vTa, .ref aFa, .ref aRu, .int vRc, .ref aRo, .ref aLa, .ref aVa]))], [(aCol, .inl (tt 0, 5, .inl vCol))], [(aFa, .inl (tt 6, 5, .inr (.inr (.inr (.inr (fun j => some (eFa j)))))))], (wA eFa (tt 2) 5 512 vFa), [(aRu, .inl (tt 5, 5, .inr (.inr (.inr (.inr (fun j => some (eRu j)))))))], (wA eRu (tt 0) 5 25 vRu), [(aRo, .inl (tt 6, 5, .inr (.inr (.inr (.inr (fun j => some (eRo j)))))))], (wA eRo (tt 2) 5 512 (zup vRo x2.toNatClampNeg (upd (vRo x2.toNatClampNeg) x3.toNatClampNeg (((vFa x2.toNatClampNeg) x3.toNatClampNeg) &&& 1)))), [(aLa, .inl (tt 0, 5, .inl vLa))], [(aVa, .inl (tt 0, 4, .inl vVa))]]) H := hP
            have hD : va_D A (zW [[(aT, .inr (12, [.ref aCol, .int vTa, .ref aFa, .ref aRu, .int vRc, .ref aRo, .ref aLa, .ref aVa]))], [(aCol, .inl (tt 0, 5, .inl vCol))], [(aFa, .inl (tt 6, 5, .inr (.inr (.inr (.inr (fun j => some (eFa j)))))))], (wA eFa (tt 2) 5 512 vFa), [(aRu, .inl (tt 5, 5, .inr (.inr (.inr (.inr (fun j => some (eRu j)))))))], (wA eRu (tt 0) 5 25 vRu), [(aRo, .inl (tt 6, 5, .inr (.inr (.inr (.inr (fun j => some (eRo j)))))))], (wA eRo (tt 2) 5 512 (zup vRo x2.toNatClampNeg (upd (vRo x2.toNatClampNeg) x3.toNatClampNeg (((vFa x2.toNatClampNeg) x3.toNatClampNeg) &&& 1)))), [(aLa, .inl (tt 0, 5, .inl vLa))], [(aVa, .inl (tt 0, 4, .inl vVa))]]) := hD
            refine lv_iinc (v := (x3 + (1 : Int32))) (lv' := [(3, .int (x3 + (1 : Int32))), (0, .ref aT), (1, .int x1), (2, .int x2)]) hx hb dX13_follows_37 hl (k := 3) rfl rfl (by decide) rfl (fun ls hl => ?_)
            refine lv_goto (tgt := 14) hx hb dX13_follows_40 (by decide) ?_
            exact ih14 _ _ _ _ _ _ _ _ _ hF hP hD hS (lv_sub hl [1, 2, 3, 0] rfl)
      intro x1 x2 vRo vLa vVa H locs ls hF hP hD hS hl
      rw [hX13_follows_7] at hF
      refine lv_iload_n hx hb dX13_follows_7 rfl (lv_at hl 2 rfl) ?_
      refine lv_iconst (v := (5 : Int32)) hx hb dX13_follows_8 (by decide) ?_
      refine lv_icmp_ge (tgt := 49) hx hb dX13_follows_9 (by decide) (fun c_9 => ?_) (fun c_9 => ?_)
      · have hF := z_t c_9 hF
        refine lv_iconst (v := (0 : Int32)) hx hb dX13_follows_49 (by decide) ?_
        refine lv_istore_n (lv' := [(2, .int (0 : Int32)), (0, .ref aT), (1, .int x1)]) hx hb dX13_follows_50 rfl hl (by decide) rfl (fun ls hl => ?_)
        exact hb51 K _ _ _ _ _ _ _ _ hF hP hD hS (lv_sub hl [1, 2, 0] rfl)
      · have hF := z_f c_9 hF
        refine lv_iconst (v := (0 : Int32)) hx hb dX13_follows_12 (by decide) ?_
        refine lv_istore_n (lv' := [(3, .int (0 : Int32)), (0, .ref aT), (1, .int x1), (2, .int x2)]) hx hb dX13_follows_13 rfl hl (by decide) rfl (fun ls hl => ?_)
        exact hb14 K _ _ _ _ _ _ _ _ _ hF hP hD hS (lv_sub hl [1, 2, 3, 0] rfl)
  obtain ⟨H, hHe⟩ : ∃ H : Heap, s.heap = H := ⟨_, rfl⟩
  have hS : va_S A s.heap H [] := by rw [← hHe]; exact va_S.rf
  rw [hHe] at hP ⊢
  unfold hX13_follows at hF
  refine lv_aload_n hx hb dX13_follows_0 rfl (lv_at hl 0 rfl) ?_
  obtain ⟨q1, hc_1, hF⟩ := z_bind hF
  have hp_1 : (zW [[(aT, .inr (12, [.ref aCol, .int vTa, .ref aFa, .ref aRu, .int vRc, .ref aRo, .ref aLa, .ref aVa]))], [(aCol, .inl (tt 0, 5, .inl vCol))], [(aFa, .inl (tt 6, 5, .inr (.inr (.inr (.inr (fun j => some (eFa j)))))))], (wA eFa (tt 2) 5 512 vFa), [(aRu, .inl (tt 5, 5, .inr (.inr (.inr (.inr (fun j => some (eRu j)))))))], (wA eRu (tt 0) 5 25 vRu), [(aRo, .inl (tt 6, 5, .inr (.inr (.inr (.inr (fun j => some (eRo j)))))))], (wA eRo (tt 2) 5 512 vRo), [(aLa, .inl (tt 0, 5, .inl vLa))], [(aVa, .inl (tt 0, 4, .inl vVa))]]).Perm (zW [[(aT, .inr (12, [.ref aCol, .int vTa, .ref aFa, .ref aRu, .int vRc, .ref aRo, .ref aLa, .ref aVa]))], [(aRu, .inl (tt 5, 5, .inr (.inr (.inr (.inr (fun j => some (eRu j)))))))], (wA eRu (tt 0) 5 25 vRu), [(aLa, .inl (tt 0, 5, .inl vLa))]] ++ zW [[(aCol, .inl (tt 0, 5, .inl vCol))], [(aFa, .inl (tt 6, 5, .inr (.inr (.inr (.inr (fun j => some (eFa j)))))))], (wA eFa (tt 2) 5 512 vFa), [(aRo, .inl (tt 6, 5, .inr (.inr (.inr (.inr (fun j => some (eRo j)))))))], (wA eRo (tt 2) 5 512 vRo), [(aVa, .inl (tt 0, 4, .inl vVa))]]) := zS_cut (is := [0, 4, 5, 8]) (js := [1, 2, 3, 6, 7, 9]) 10 rfl rfl rfl (by decide)
  refine s_backi (s_goV (As := []) (rest := []) (ci := 12) ⟨hx, hb, hml, hown, hts⟩ hK hN hX hO hAA hp_1 hP hD hS hA (oX13_findsLayers l G tt sa hlt H.size K aT aCol aFa aRu aRo aLa aVa eRu vTa vRc vRu vLa q1 hc_1) (cwV 0 hts gX13_follows_X13_findsLayers rfl rfl rfl (by decide +kernel) ⟨Nat.le_of_ble_eq_true rfl, Nat.le_of_ble_eq_true rfl⟩) rfl rfl rfl hl.1 rfl (Nat.le_of_ble_eq_true rfl) dX13_follows_1 ⟨Nat.le_of_ble_eq_true rfl, Nat.le_of_ble_eq_true rfl⟩) hp_1 hP hD hS hA (fun r_1 u H locs hw hP hD hS => ?_)
  obtain ⟨rfl, rfl⟩ := hw
  have hP : va_P G vwCl (zW [[(aCol, .inl (tt 0, 5, .inl vCol))], [(aFa, .inl (tt 6, 5, .inr (.inr (.inr (.inr (fun j => some (eFa j)))))))], (wA eFa (tt 2) 5 512 vFa), [(aRo, .inl (tt 6, 5, .inr (.inr (.inr (.inr (fun j => some (eRo j)))))))], (wA eRo (tt 2) 5 512 vRo), [(aVa, .inl (tt 0, 4, .inl vVa))], [(aT, .inr (12, [.ref aCol, .int vTa, .ref aFa, .ref aRu, .int vRc, .ref aRo, .ref aLa, .ref aVa]))], [(aRu, .inl (tt 5, 5, .inr (.inr (.inr (.inr (fun j => some (eRu j)))))))], (wA eRu (tt 0) 5 25 vRu), [(aLa, .inl (tt 0, 5, .inl q1.2))]]) H := hP
  have hD : va_D A (zW [[(aCol, .inl (tt 0, 5, .inl vCol))], [(aFa, .inl (tt 6, 5, .inr (.inr (.inr (.inr (fun j => some (eFa j)))))))], (wA eFa (tt 2) 5 512 vFa), [(aRo, .inl (tt 6, 5, .inr (.inr (.inr (.inr (fun j => some (eRo j)))))))], (wA eRo (tt 2) 5 512 vRo), [(aVa, .inl (tt 0, 4, .inl vVa))], [(aT, .inr (12, [.ref aCol, .int vTa, .ref aFa, .ref aRu, .int vRc, .ref aRo, .ref aLa, .ref aVa]))], [(aRu, .inl (tt 5, 5, .inr (.inr (.inr (.inr (fun j => some (eRu j)))))))], (wA eRu (tt 0) 5 25 vRu), [(aLa, .inl (tt 0, 5, .inl q1.2))]]) := hD
  refine lv_istore_n (lv' := [(1, .int (bI q1.1)), (0, .ref aT)]) hx hb dX13_follows_4 rfl hl (by decide) rfl (fun ls hl => ?_)
  refine lv_iconst (v := (0 : Int32)) hx hb dX13_follows_5 (by decide) ?_
  refine lv_istore_n (lv' := [(2, .int (0 : Int32)), (1, .int (bI q1.1)), (0, .ref aT)]) hx hb dX13_follows_6 rfl hl (by decide) rfl (fun ls hl => ?_)
  have hpj : (zW [[(aCol, .inl (tt 0, 5, .inl vCol))], [(aFa, .inl (tt 6, 5, .inr (.inr (.inr (.inr (fun j => some (eFa j)))))))], (wA eFa (tt 2) 5 512 vFa), [(aRo, .inl (tt 6, 5, .inr (.inr (.inr (.inr (fun j => some (eRo j)))))))], (wA eRo (tt 2) 5 512 vRo), [(aVa, .inl (tt 0, 4, .inl vVa))], [(aT, .inr (12, [.ref aCol, .int vTa, .ref aFa, .ref aRu, .int vRc, .ref aRo, .ref aLa, .ref aVa]))], [(aRu, .inl (tt 5, 5, .inr (.inr (.inr (.inr (fun j => some (eRu j)))))))], (wA eRu (tt 0) 5 25 vRu), [(aLa, .inl (tt 0, 5, .inl q1.2))]]).Perm (zW [[(aT, .inr (12, [.ref aCol, .int vTa, .ref aFa, .ref aRu, .int vRc, .ref aRo, .ref aLa, .ref aVa]))], [(aCol, .inl (tt 0, 5, .inl vCol))], [(aFa, .inl (tt 6, 5, .inr (.inr (.inr (.inr (fun j => some (eFa j)))))))], (wA eFa (tt 2) 5 512 vFa), [(aRu, .inl (tt 5, 5, .inr (.inr (.inr (.inr (fun j => some (eRu j)))))))], (wA eRu (tt 0) 5 25 vRu), [(aRo, .inl (tt 6, 5, .inr (.inr (.inr (.inr (fun j => some (eRo j)))))))], (wA eRo (tt 2) 5 512 vRo), [(aLa, .inl (tt 0, 5, .inl q1.2))], [(aVa, .inl (tt 0, 4, .inl vVa))]] ++ zW []) := zS_cut (is := [6, 0, 1, 2, 7, 8, 3, 4, 9, 5]) (js := []) 10 rfl rfl rfl (by decide)
  exact hb7 K _ _ _ _ _ _ _ _ hF (zS_subP hpj hP) (zS_subD hpj hD) hS (lv_sub hl [2, 1, 0] rfl)

set_option maxHeartbeats 8000000 in
set_option maxRecDepth 100000 in
theorem oL_valueIn (l : Launch) (G : va_G) (tt : Nat → ClassId) (sa : Nat → Nat) (hlt : l.stackTraces = false) (sz : Nat) (K : Nat) (p0 : Int32) (p1 : Int32) (RR : Int32) (hF : hL_valueIn K p0 p1 = some RR) : Met l yL_valueIn wsL_valueIn ({ frames := 1, cells := 0, slots := 0, locals := 60 } : Room) (zPreQ G (zTy tt) sa [.int p0, .int p1] sz (zW [])) (va_Qi (fun (r : Int32) (_ : Unit) => r = RR) (zAt G (zTy tt) (va_A (zW []) sz) (fun _ : Unit => zW [])) (va_A (zW []) sz)) 0 0 (va_A (zW []) sz) := by
  refine Met.ofW (cc := cL_valueIn) (maxL := 2) (ret := (some .int)) (by decide +kernel) rfl ?_
  intro p e s m args below meth c s₁ B hml hv
  obtain ⟨rfl, hsz, hP, hK, hD0, hN, hX, hO, hAA⟩ := hv
  have hx := B.exec
  have hb := B.bytes
  have hr := B.returns
  have hts := atoms_spec (ws := wsL_valueIn) B.pre
  have hown : s.vm.findClass RL = some m.cls := findClass_of_methodNamed B.named
  have hlocks := B.notSynchronized
  subst hsz
  have hD := hD0.self (sz := s.heap.size)
  generalize hAe : va_A (zW []) s.heap.size = A at hD hX ⊢
  have hA : ∀ q : Nat, s.heap.size ≤ q → A q := fun q h => by rw [← hAe]; exact Or.inr h
  have hP : va_P G vwCl (zW []) s.heap := hP
  have hl := lv_entry ([.int p0, .int p1]) (n := 2) (Nat.le_of_ble_eq_true rfl)
  rw [lg_entry_eq]
  generalize (lg_sl ([.int p0, .int p1]) ++ List.replicate (2 - (lg_sl ([.int p0, .int p1])).length) Slot.unset).toArray = ls at hl ⊢
  have hl : lv_has ls 2 [(0, .int p0), (1, .int p1)] := hl
  obtain ⟨H, hHe⟩ : ∃ H : Heap, s.heap = H := ⟨_, rfl⟩
  have hS : va_S A s.heap H [] := by rw [← hHe]; exact va_S.rf
  rw [hHe] at hP ⊢
  unfold hL_valueIn at hF
  refine lv_iload_n hx hb dL_valueIn_0 rfl (lv_at hl 0 rfl) ?_
  refine lv_bipush (v := (6 : Int32)) hx hb dL_valueIn_1 (by decide) ?_
  refine lv_iconst (v := (3 : Int32)) hx hb dL_valueIn_3 (by decide) ?_
  refine lv_iload_n hx hb dL_valueIn_4 rfl (lv_at hl 1 rfl) ?_
  refine lv_imul hx hb dL_valueIn_5 ?_
  refine lv_isub hx hb dL_valueIn_6 ?_
  refine lv_ishr hx hb dL_valueIn_7 ?_
  refine lv_bipush (v := (7 : Int32)) hx hb dL_valueIn_8 (by decide) ?_
  refine lv_iand hx hb dL_valueIn_10 ?_
  have hp9 : (zW []).Perm (zW [] ++ zW []) := zS_cut (is := []) (js := []) 0 rfl rfl rfl (by decide)
  have hP9 : va_P G vwCl (zW []) H := zS_subP hp9 hP
  have hD9 : va_D A (zW []) := zS_subD hp9 hD
  have hR := Option.some.inj hF
  exact W.iret (v := ((p0 >>> (((6 : Int32) - ((3 : Int32) * p1)) &&& 31)) &&& (7 : Int32))) hx hb hr (fun t ht hW => ⟨⟨((p0 >>> (((6 : Int32) - ((3 : Int32) * p1)) &&& 31)) &&& (7 : Int32)), (), rfl, (by subst hR; rfl), by rw [ht]; exact hP9, va_K.moved hW.alike hK, hD9⟩, hS.F ht⟩) hS.2.2 dL_valueIn_11

set_option maxHeartbeats 8000000 in
set_option maxRecDepth 100000 in
theorem oL_drawnCode (l : Launch) (G : va_G) (tt : Nat → ClassId) (sa : Nat → Nat) (hlt : l.stackTraces = false) (sz : Nat) (K : Nat) (aT : Nat) (aCol : Nat) (aFa : Nat) (aRu : Nat) (aRo : Nat) (aLa : Nat) (aVa : Nat) (aD : Nat) (vTa : Int32) (vRc : Int32) (vCol : Nat → Int32) (vSe : Int64) (p2 : Int32) (p3 : Int32) (RR : Int32 × Int64) (hF : hL_drawnCode K vCol p2 p3 vSe = some RR) : Met l yL_drawnCode wsL_drawnCode ({ frames := 2, cells := 0, slots := 0, locals := 81 } : Room) (zPreQ G (zTy tt) sa [.ref aT, .ref aD, .int p2, .int p3] sz (zW [[(aT, .inr (12, [.ref aCol, .int vTa, .ref aFa, .ref aRu, .int vRc, .ref aRo, .ref aLa, .ref aVa]))], [(aCol, .inl (tt 0, 5, .inl vCol))], [(aD, .inr (11, [.long vSe]))]])) (va_Qi (fun (r : Int32) (u : Int64) => r = RR.1 ∧ u = RR.2) (zAt G (zTy tt) (va_A (zW [[(aT, .inr (12, [.ref aCol, .int vTa, .ref aFa, .ref aRu, .int vRc, .ref aRo, .ref aLa, .ref aVa]))], [(aCol, .inl (tt 0, 5, .inl vCol))], [(aD, .inr (11, [.long vSe]))]]) sz) (fun u : Int64 => zW [[(aT, .inr (12, [.ref aCol, .int vTa, .ref aFa, .ref aRu, .int vRc, .ref aRo, .ref aLa, .ref aVa]))], [(aCol, .inl (tt 0, 5, .inl vCol))], [(aD, .inr (11, [.long u]))]])) (va_A (zW [[(aT, .inr (12, [.ref aCol, .int vTa, .ref aFa, .ref aRu, .int vRc, .ref aRo, .ref aLa, .ref aVa]))], [(aCol, .inl (tt 0, 5, .inl vCol))], [(aD, .inr (11, [.long vSe]))]]) sz)) 0 0 (va_A (zW [[(aT, .inr (12, [.ref aCol, .int vTa, .ref aFa, .ref aRu, .int vRc, .ref aRo, .ref aLa, .ref aVa]))], [(aCol, .inl (tt 0, 5, .inl vCol))], [(aD, .inr (11, [.long vSe]))]]) sz) := by
  refine Met.ofW (cc := cL_drawnCode) (maxL := 6) (ret := (some .int)) (by decide +kernel) rfl ?_
  intro p e s m args below meth c s₁ B hml hv
  obtain ⟨rfl, hsz, hP, hK, hD0, hN, hX, hO, hAA⟩ := hv
  have hx := B.exec
  have hb := B.bytes
  have hr := B.returns
  have hts := atoms_spec (ws := wsL_drawnCode) B.pre
  have hown : s.vm.findClass RL = some m.cls := findClass_of_methodNamed B.named
  have hlocks := B.notSynchronized
  subst hsz
  have hD := hD0.self (sz := s.heap.size)
  generalize hAe : va_A (zW [[(aT, .inr (12, [.ref aCol, .int vTa, .ref aFa, .ref aRu, .int vRc, .ref aRo, .ref aLa, .ref aVa]))], [(aCol, .inl (tt 0, 5, .inl vCol))], [(aD, .inr (11, [.long vSe]))]]) s.heap.size = A at hD hX ⊢
  have hA : ∀ q : Nat, s.heap.size ≤ q → A q := fun q h => by rw [← hAe]; exact Or.inr h
  have hP : va_P G vwCl (zW [[(aT, .inr (12, [.ref aCol, .int vTa, .ref aFa, .ref aRu, .int vRc, .ref aRo, .ref aLa, .ref aVa]))], [(aCol, .inl (tt 0, 5, .inl vCol))], [(aD, .inr (11, [.long vSe]))]]) s.heap := hP
  have hiX13 : ∀ w ∈ wsX130, w ∈ wsL_drawnCode := by decide +kernel
  have hl := lv_entry ([.ref aT, .ref aD, .int p2, .int p3]) (n := 6) (Nat.le_of_ble_eq_true rfl)
  rw [lg_entry_eq]
  generalize (lg_sl ([.ref aT, .ref aD, .int p2, .int p3]) ++ List.replicate (6 - (lg_sl ([.ref aT, .ref aD, .int p2, .int p3])).length) Slot.unset).toArray = ls at hl ⊢
  have hl : lv_has ls 6 [(0, .ref aT), (1, .ref aD), (2, .int p2), (3, .int p3)] := hl
  have hb6 : ∀ (k6 : Nat), ∀ (x4 : Int32) (x5 : Int32) (vSe : Int64)  (H : Heap) (locs : List Loc) (ls : Array Slot), hL_drawnCode_6 K vCol p2 p3 k6 x4 x5 vSe = some RR → va_P G vwCl (zW [[(aT, .inr (12, [.ref aCol, .int vTa, .ref aFa, .ref aRu, .int vRc, .ref aRo, .ref aLa, .ref aVa]))], [(aCol, .inl (tt 0, 5, .inl vCol))], [(aD, .inr (11, [.long vSe]))]]) H → va_D A (zW [[(aT, .inr (12, [.ref aCol, .int vTa, .ref aFa, .ref aRu, .int vRc, .ref aRo, .ref aLa, .ref aVa]))], [(aCol, .inl (tt 0, 5, .inl vCol))], [(aD, .inr (11, [.long vSe]))]]) → va_S A s.heap H locs → lv_has ls 6 [(0, .ref aT), (1, .ref aD), (2, .int p2), (3, .int p3), (4, .int x4), (5, .int x5)] → W p l e (headSpec wsL_drawnCode ({ frames := 2, cells := 0, slots := 0, locals := 81 } : Room)).room s m ([.ref aT, .ref aD, .int p2, .int p3] : List Value).toArray below meth c H locs 0 0 (MQ below (va_Qi (fun (r : Int32) (u : Int64) => r = RR.1 ∧ u = RR.2) (zAt G (zTy tt) A (fun u : Int64 => zW [[(aT, .inr (12, [.ref aCol, .int vTa, .ref aFa, .ref aRu, .int vRc, .ref aRo, .ref aLa, .ref aVa]))], [(aCol, .inl (tt 0, 5, .inl vCol))], [(aD, .inr (11, [.long u]))]])) A) ([.ref aT, .ref aD, .int p2, .int p3] : List Value).toArray s 0 0 A) (F0 m 6 ls []) := by
    intro k6
    induction k6 with
    | zero => intro x4 x5 vSe H locs ls hF; rw [hL_drawnCode_6] at hF; cases hF
    | succ k6 ih6 =>
      intro x4 x5 vSe H locs ls hF hP hD hS hl
      rw [hL_drawnCode_6] at hF
      refine lv_iload hx hb dL_drawnCode_6 (lv_at hl 5 rfl) ?_
      refine lv_aload_n hx hb dL_drawnCode_8 rfl (lv_at hl 0 rfl) ?_
      obtain ⟨k_9, hk_9, hs_9⟩ := zS_one hP 0 rfl
      refine va_get (D := G) (ci := 12) (v := .ref aCol) (C := RX13) (T := TX13) (N := 8) hx hb hts hiX13 hown hK hP k_9 hk_9 rfl 0 (by decide) (hts (.fieldLink RL 31 "LeapTablesLaw$Told" "columns" "[I") (List.mem_of_getElem? (i := 1) rfl)) (fun _ h9 => h9) rfl dL_drawnCode_9 ?_
      refine lv_iload_n hx hb dL_drawnCode_12 rfl (lv_at hl 2 rfl) ?_
      obtain ⟨h_13, hF⟩ := z_in hF
      obtain ⟨k_13, hk_13, hs_13⟩ := zS_one hP 1 rfl
      refine va_iald hx hb hK hP k_13 0 hk_13 rfl h_13 dL_drawnCode_13 ?_
      refine lv_icmp_ge (tgt := 41) hx hb dL_drawnCode_14 (by decide) (fun c_14 => ?_) (fun c_14 => ?_)
      · have hF := z_t c_14 hF
        refine lv_iload hx hb dL_drawnCode_41 (lv_at hl 4 rfl) ?_
        have hp9 : (zW [[(aT, .inr (12, [.ref aCol, .int vTa, .ref aFa, .ref aRu, .int vRc, .ref aRo, .ref aLa, .ref aVa]))], [(aCol, .inl (tt 0, 5, .inl vCol))], [(aD, .inr (11, [.long vSe]))]]).Perm (zW [[(aT, .inr (12, [.ref aCol, .int vTa, .ref aFa, .ref aRu, .int vRc, .ref aRo, .ref aLa, .ref aVa]))], [(aCol, .inl (tt 0, 5, .inl vCol))], [(aD, .inr (11, [.long vSe]))]] ++ zW []) := zS_cut (is := [0, 1, 2]) (js := []) 3 rfl rfl rfl (by decide)
        have hP9 : va_P G vwCl (zW [[(aT, .inr (12, [.ref aCol, .int vTa, .ref aFa, .ref aRu, .int vRc, .ref aRo, .ref aLa, .ref aVa]))], [(aCol, .inl (tt 0, 5, .inl vCol))], [(aD, .inr (11, [.long vSe]))]]) H := zS_subP hp9 hP
        have hD9 : va_D A (zW [[(aT, .inr (12, [.ref aCol, .int vTa, .ref aFa, .ref aRu, .int vRc, .ref aRo, .ref aLa, .ref aVa]))], [(aCol, .inl (tt 0, 5, .inl vCol))], [(aD, .inr (11, [.long vSe]))]]) := zS_subD hp9 hD
        have hR := Option.some.inj hF
        exact W.iret (v := x4) hx hb hr (fun t ht hW => ⟨⟨x4, (vSe), rfl, (by subst hR; exact ⟨rfl, rfl⟩), by rw [ht]; exact hP9, va_K.moved hW.alike hK, hD9⟩, hS.F ht⟩) hS.2.2 dL_drawnCode_43
      · have hF := z_f c_14 hF
        refine lv_iload hx hb dL_drawnCode_17 (lv_at hl 4 rfl) ?_
        refine lv_aload_n hx hb dL_drawnCode_19 rfl (lv_at hl 1 rfl) ?_
        refine lv_iload_n hx hb dL_drawnCode_20 rfl (lv_at hl 3 rfl) ?_
        obtain ⟨q21, hc_21, hF⟩ := z_bind hF
        have hp_21 : (zW [[(aT, .inr (12, [.ref aCol, .int vTa, .ref aFa, .ref aRu, .int vRc, .ref aRo, .ref aLa, .ref aVa]))], [(aCol, .inl (tt 0, 5, .inl vCol))], [(aD, .inr (11, [.long vSe]))]]).Perm (zW [[(aD, .inr (11, [.long vSe]))]] ++ zW [[(aT, .inr (12, [.ref aCol, .int vTa, .ref aFa, .ref aRu, .int vRc, .ref aRo, .ref aLa, .ref aVa]))], [(aCol, .inl (tt 0, 5, .inl vCol))]]) := zS_cut (is := [2]) (js := [0, 1]) 3 rfl rfl rfl (by decide)
        refine s_backi (s_goV (As := [.int p3]) (rest := [.int x4]) (ci := 11) ⟨hx, hb, hml, hown, hts⟩ hK hN hX hO hAA hp_21 hP hD hS hA (oX12_next l G tt sa hlt H.size K aD vSe p3 q21 hc_21) (cwV 1 hts gL_drawnCode_X12_next rfl rfl rfl (by decide +kernel) ⟨Nat.le_of_ble_eq_true rfl, Nat.le_of_ble_eq_true rfl⟩) rfl rfl rfl hl.1 rfl (Nat.le_of_ble_eq_true rfl) dL_drawnCode_21 ⟨Nat.le_of_ble_eq_true rfl, Nat.le_of_ble_eq_true rfl⟩) hp_21 hP hD hS hA (fun r_21 u H locs hw hP hD hS => ?_)
        obtain ⟨rfl, rfl⟩ := hw
        have hP : va_P G vwCl (zW [[(aT, .inr (12, [.ref aCol, .int vTa, .ref aFa, .ref aRu, .int vRc, .ref aRo, .ref aLa, .ref aVa]))], [(aCol, .inl (tt 0, 5, .inl vCol))], [(aD, .inr (11, [.long q21.2]))]]) H := hP
        have hD : va_D A (zW [[(aT, .inr (12, [.ref aCol, .int vTa, .ref aFa, .ref aRu, .int vRc, .ref aRo, .ref aLa, .ref aVa]))], [(aCol, .inl (tt 0, 5, .inl vCol))], [(aD, .inr (11, [.long q21.2]))]]) := hD
        refine lv_bipush (v := (6 : Int32)) hx hb dL_drawnCode_24 (by decide) ?_
        refine lv_iconst (v := (3 : Int32)) hx hb dL_drawnCode_26 (by decide) ?_
        refine lv_iload hx hb dL_drawnCode_27 (lv_at hl 5 rfl) ?_
        refine lv_imul hx hb dL_drawnCode_29 ?_
        refine lv_isub hx hb dL_drawnCode_30 ?_
        refine lv_ishl hx hb dL_drawnCode_31 ?_
        refine lv_ior hx hb dL_drawnCode_32 ?_
        refine lv_istore (lv' := [(4, .int (x4 ||| (q21.1 <<< (((6 : Int32) - ((3 : Int32) * x5)) &&& 31)))), (0, .ref aT), (1, .ref aD), (2, .int p2), (3, .int p3), (5, .int x5)]) hx hb dL_drawnCode_33 hl (by decide) rfl (fun ls hl => ?_)
        refine lv_iinc (v := (x5 + (1 : Int32))) (lv' := [(5, .int (x5 + (1 : Int32))), (4, .int (x4 ||| (q21.1 <<< (((6 : Int32) - ((3 : Int32) * x5)) &&& 31)))), (0, .ref aT), (1, .ref aD), (2, .int p2), (3, .int p3)]) hx hb dL_drawnCode_35 hl (k := 5) rfl rfl (by decide) rfl (fun ls hl => ?_)
        refine lv_goto (tgt := 6) hx hb dL_drawnCode_38 (by decide) ?_
        exact ih6 _ _ _ _ _ _ hF hP hD hS (lv_sub hl [2, 3, 4, 5, 1, 0] rfl)
  obtain ⟨H, hHe⟩ : ∃ H : Heap, s.heap = H := ⟨_, rfl⟩
  have hS : va_S A s.heap H [] := by rw [← hHe]; exact va_S.rf
  rw [hHe] at hP ⊢
  unfold hL_drawnCode at hF
  refine lv_iconst (v := (0 : Int32)) hx hb dL_drawnCode_0 (by decide) ?_
  refine lv_istore (lv' := [(4, .int (0 : Int32)), (0, .ref aT), (1, .ref aD), (2, .int p2), (3, .int p3)]) hx hb dL_drawnCode_1 hl (by decide) rfl (fun ls hl => ?_)
  refine lv_iconst (v := (0 : Int32)) hx hb dL_drawnCode_3 (by decide) ?_
  refine lv_istore (lv' := [(5, .int (0 : Int32)), (4, .int (0 : Int32)), (0, .ref aT), (1, .ref aD), (2, .int p2), (3, .int p3)]) hx hb dL_drawnCode_4 hl (by decide) rfl (fun ls hl => ?_)
  exact hb6 K _ _ _ _ _ _ hF hP hD hS (lv_sub hl [2, 3, 4, 5, 1, 0] rfl)

set_option maxHeartbeats 8000000 in
set_option maxRecDepth 100000 in
theorem oL_laysAtom (l : Launch) (G : va_G) (tt : Nat → ClassId) (sa : Nat → Nat) (hlt : l.stackTraces = false) (sz : Nat) (K : Nat) (nG : Nat) (aT : Nat) (aCol : Nat) (aFa : Nat) (aRu : Nat) (aRo : Nat) (aLa : Nat) (aVa : Nat) (aD : Nat) (aG : Nat) (vTa : Int32) (vRc : Int32) (vCol : Nat → Int32) (vSe : Int64) (vG : Nat → Int32) (p3 : Int32) (p4 : Int32) (RR : Int64 × (Nat → Int32)) (hF : hL_laysAtom K nG vTa vCol p3 p4 vSe vG = some RR) : Met l yL_laysAtom wsL_laysAtom ({ frames := 2, cells := 0, slots := 0, locals := 81 } : Room) (zPreQ G (zTy tt) sa [.ref aT, .ref aD, .ref aG, .int p3, .int p4] sz (zW [[(aT, .inr (12, [.ref aCol, .int vTa, .ref aFa, .ref aRu, .int vRc, .ref aRo, .ref aLa, .ref aVa]))], [(aCol, .inl (tt 0, 5, .inl vCol))], [(aD, .inr (11, [.long vSe]))], [(aG, .inl (tt 0, nG, .inl vG))]])) (va_Qv (fun u : Int64 × (Nat → Int32) => u = RR) (zAt G (zTy tt) (va_A (zW [[(aT, .inr (12, [.ref aCol, .int vTa, .ref aFa, .ref aRu, .int vRc, .ref aRo, .ref aLa, .ref aVa]))], [(aCol, .inl (tt 0, 5, .inl vCol))], [(aD, .inr (11, [.long vSe]))], [(aG, .inl (tt 0, nG, .inl vG))]]) sz) (fun u : Int64 × (Nat → Int32) => zW [[(aT, .inr (12, [.ref aCol, .int vTa, .ref aFa, .ref aRu, .int vRc, .ref aRo, .ref aLa, .ref aVa]))], [(aCol, .inl (tt 0, 5, .inl vCol))], [(aD, .inr (11, [.long u.1]))], [(aG, .inl (tt 0, nG, .inl u.2))]])) (va_A (zW [[(aT, .inr (12, [.ref aCol, .int vTa, .ref aFa, .ref aRu, .int vRc, .ref aRo, .ref aLa, .ref aVa]))], [(aCol, .inl (tt 0, 5, .inl vCol))], [(aD, .inr (11, [.long vSe]))], [(aG, .inl (tt 0, nG, .inl vG))]]) sz)) 0 0 (va_A (zW [[(aT, .inr (12, [.ref aCol, .int vTa, .ref aFa, .ref aRu, .int vRc, .ref aRo, .ref aLa, .ref aVa]))], [(aCol, .inl (tt 0, 5, .inl vCol))], [(aD, .inr (11, [.long vSe]))], [(aG, .inl (tt 0, nG, .inl vG))]]) sz) := by
  refine Met.ofW (cc := cL_laysAtom) (maxL := 7) (ret := none) (by decide +kernel) rfl ?_
  intro p e s m args below meth c s₁ B hml hv
  obtain ⟨rfl, hsz, hP, hK, hD0, hN, hX, hO, hAA⟩ := hv
  have hx := B.exec
  have hb := B.bytes
  have hr := B.returns
  have hts := atoms_spec (ws := wsL_laysAtom) B.pre
  have hown : s.vm.findClass RL = some m.cls := findClass_of_methodNamed B.named
  have hlocks := B.notSynchronized
  subst hsz
  have hD := hD0.self (sz := s.heap.size)
  generalize hAe : va_A (zW [[(aT, .inr (12, [.ref aCol, .int vTa, .ref aFa, .ref aRu, .int vRc, .ref aRo, .ref aLa, .ref aVa]))], [(aCol, .inl (tt 0, 5, .inl vCol))], [(aD, .inr (11, [.long vSe]))], [(aG, .inl (tt 0, nG, .inl vG))]]) s.heap.size = A at hD hX ⊢
  have hA : ∀ q : Nat, s.heap.size ≤ q → A q := fun q h => by rw [← hAe]; exact Or.inr h
  have hP : va_P G vwCl (zW [[(aT, .inr (12, [.ref aCol, .int vTa, .ref aFa, .ref aRu, .int vRc, .ref aRo, .ref aLa, .ref aVa]))], [(aCol, .inl (tt 0, 5, .inl vCol))], [(aD, .inr (11, [.long vSe]))], [(aG, .inl (tt 0, nG, .inl vG))]]) s.heap := hP
  have hiX13 : ∀ w ∈ wsX130, w ∈ wsL_laysAtom := by decide +kernel
  have hl := lv_entry ([.ref aT, .ref aD, .ref aG, .int p3, .int p4]) (n := 7) (Nat.le_of_ble_eq_true rfl)
  rw [lg_entry_eq]
  generalize (lg_sl ([.ref aT, .ref aD, .ref aG, .int p3, .int p4]) ++ List.replicate (7 - (lg_sl ([.ref aT, .ref aD, .ref aG, .int p3, .int p4])).length) Slot.unset).toArray = ls at hl ⊢
  have hl : lv_has ls 7 [(0, .ref aT), (1, .ref aD), (2, .ref aG), (3, .int p3), (4, .int p4)] := hl
  have hb18 : ∀ (k18 : Nat), ∀ (x5 : Int32) (x6 : Int32) (vSe : Int64) (vG : Nat → Int32)  (H : Heap) (locs : List Loc) (ls : Array Slot), hL_laysAtom_18 K nG vTa vCol p3 p4 k18 x5 x6 vSe vG = some RR → va_P G vwCl (zW [[(aT, .inr (12, [.ref aCol, .int vTa, .ref aFa, .ref aRu, .int vRc, .ref aRo, .ref aLa, .ref aVa]))], [(aCol, .inl (tt 0, 5, .inl vCol))], [(aD, .inr (11, [.long vSe]))], [(aG, .inl (tt 0, nG, .inl vG))]]) H → va_D A (zW [[(aT, .inr (12, [.ref aCol, .int vTa, .ref aFa, .ref aRu, .int vRc, .ref aRo, .ref aLa, .ref aVa]))], [(aCol, .inl (tt 0, 5, .inl vCol))], [(aD, .inr (11, [.long vSe]))], [(aG, .inl (tt 0, nG, .inl vG))]]) → va_S A s.heap H locs → lv_has ls 7 [(0, .ref aT), (1, .ref aD), (2, .ref aG), (3, .int p3), (4, .int p4), (5, .int x5), (6, .int x6)] → W p l e (headSpec wsL_laysAtom ({ frames := 2, cells := 0, slots := 0, locals := 81 } : Room)).room s m ([.ref aT, .ref aD, .ref aG, .int p3, .int p4] : List Value).toArray below meth c H locs 0 0 (MQ below (va_Qv (fun u : Int64 × (Nat → Int32) => u = RR) (zAt G (zTy tt) A (fun u : Int64 × (Nat → Int32) => zW [[(aT, .inr (12, [.ref aCol, .int vTa, .ref aFa, .ref aRu, .int vRc, .ref aRo, .ref aLa, .ref aVa]))], [(aCol, .inl (tt 0, 5, .inl vCol))], [(aD, .inr (11, [.long u.1]))], [(aG, .inl (tt 0, nG, .inl u.2))]])) A) ([.ref aT, .ref aD, .ref aG, .int p3, .int p4] : List Value).toArray s 0 0 A) (F0 m 18 ls []) := by
    intro k18
    induction k18 with
    | zero => intro x5 x6 vSe vG H locs ls hF; rw [hL_laysAtom_18] at hF; cases hF
    | succ k18 ih18 =>
      have hb53 : ∀ (x5 : Int32) (x6 : Int32) (t1 : Int32) (t2 : Int32) (vSe : Int64) (vG : Nat → Int32)  (H : Heap) (locs : List Loc) (ls : Array Slot), hL_laysAtom_53 K nG vTa vCol p3 p4 (hL_laysAtom_18 K nG vTa vCol p3 p4 k18) x5 x6 t1 t2 vSe vG = some RR → va_P G vwCl (zW [[(aT, .inr (12, [.ref aCol, .int vTa, .ref aFa, .ref aRu, .int vRc, .ref aRo, .ref aLa, .ref aVa]))], [(aCol, .inl (tt 0, 5, .inl vCol))], [(aD, .inr (11, [.long vSe]))], [(aG, .inl (tt 0, nG, .inl vG))]]) H → va_D A (zW [[(aT, .inr (12, [.ref aCol, .int vTa, .ref aFa, .ref aRu, .int vRc, .ref aRo, .ref aLa, .ref aVa]))], [(aCol, .inl (tt 0, 5, .inl vCol))], [(aD, .inr (11, [.long vSe]))], [(aG, .inl (tt 0, nG, .inl vG))]]) → va_S A s.heap H locs → lv_has ls 7 [(0, .ref aT), (1, .ref aD), (2, .ref aG), (3, .int p3), (4, .int p4), (5, .int x5), (6, .int x6)] → W p l e (headSpec wsL_laysAtom ({ frames := 2, cells := 0, slots := 0, locals := 81 } : Room)).room s m ([.ref aT, .ref aD, .ref aG, .int p3, .int p4] : List Value).toArray below meth c H locs 0 0 (MQ below (va_Qv (fun u : Int64 × (Nat → Int32) => u = RR) (zAt G (zTy tt) A (fun u : Int64 × (Nat → Int32) => zW [[(aT, .inr (12, [.ref aCol, .int vTa, .ref aFa, .ref aRu, .int vRc, .ref aRo, .ref aLa, .ref aVa]))], [(aCol, .inl (tt 0, 5, .inl vCol))], [(aD, .inr (11, [.long u.1]))], [(aG, .inl (tt 0, nG, .inl u.2))]])) A) ([.ref aT, .ref aD, .ref aG, .int p3, .int p4] : List Value).toArray s 0 0 A) (F0 m 53 ls [.int t2, .int t1, .ref aG]) := by
        intro x5 x6 t1 t2 vSe vG H locs ls hF hP hD hS hl
        unfold hL_laysAtom_53 at hF
        obtain ⟨h_53, hF⟩ := z_in hF
        obtain ⟨k_53, hk_53, hs_53⟩ := zS_one hP 3 rfl
        refine va_iast hx hb hK hP hD hS k_53 0 hk_53 rfl h_53 dL_laysAtom_53 (fun H locs hP hD hS => ?_)
        rw [hs_53] at hP hD
        have hP : va_P G vwCl (zW [[(aT, .inr (12, [.ref aCol, .int vTa, .ref aFa, .ref aRu, .int vRc, .ref aRo, .ref aLa, .ref aVa]))], [(aCol, .inl (tt 0, 5, .inl vCol))], [(aD, .inr (11, [.long vSe]))], [(aG, .inl (tt 0, nG, .inl (upd vG t1.toNatClampNeg t2)))]]) H := hP
        have hD : va_D A (zW [[(aT, .inr (12, [.ref aCol, .int vTa, .ref aFa, .ref aRu, .int vRc, .ref aRo, .ref aLa, .ref aVa]))], [(aCol, .inl (tt 0, 5, .inl vCol))], [(aD, .inr (11, [.long vSe]))], [(aG, .inl (tt 0, nG, .inl (upd vG t1.toNatClampNeg t2)))]]) := hD
        refine lv_iinc (v := (x6 + (1 : Int32))) (lv' := [(6, .int (x6 + (1 : Int32))), (0, .ref aT), (1, .ref aD), (2, .ref aG), (3, .int p3), (4, .int p4), (5, .int x5)]) hx hb dL_laysAtom_54 hl (k := 6) rfl rfl (by decide) rfl (fun ls hl => ?_)
        refine lv_goto (tgt := 18) hx hb dL_laysAtom_57 (by decide) ?_
        exact ih18 _ _ _ _ _ _ _ hF hP hD hS (lv_sub hl [1, 2, 3, 4, 5, 6, 0] rfl)
      intro x5 x6 vSe vG H locs ls hF hP hD hS hl
      rw [hL_laysAtom_18] at hF
      refine lv_iload hx hb dL_laysAtom_18 (lv_at hl 6 rfl) ?_
      refine lv_iconst (v := (3 : Int32)) hx hb dL_laysAtom_20 (by decide) ?_
      refine lv_icmp_ge (tgt := 60) hx hb dL_laysAtom_21 (by decide) (fun c_21 => ?_) (fun c_21 => ?_)
      · have hF := z_t c_21 hF
        have hp9 : (zW [[(aT, .inr (12, [.ref aCol, .int vTa, .ref aFa, .ref aRu, .int vRc, .ref aRo, .ref aLa, .ref aVa]))], [(aCol, .inl (tt 0, 5, .inl vCol))], [(aD, .inr (11, [.long vSe]))], [(aG, .inl (tt 0, nG, .inl vG))]]).Perm (zW [[(aT, .inr (12, [.ref aCol, .int vTa, .ref aFa, .ref aRu, .int vRc, .ref aRo, .ref aLa, .ref aVa]))], [(aCol, .inl (tt 0, 5, .inl vCol))], [(aD, .inr (11, [.long vSe]))], [(aG, .inl (tt 0, nG, .inl vG))]] ++ zW []) := zS_cut (is := [0, 1, 2, 3]) (js := []) 4 rfl rfl rfl (by decide)
        have hP9 : va_P G vwCl (zW [[(aT, .inr (12, [.ref aCol, .int vTa, .ref aFa, .ref aRu, .int vRc, .ref aRo, .ref aLa, .ref aVa]))], [(aCol, .inl (tt 0, 5, .inl vCol))], [(aD, .inr (11, [.long vSe]))], [(aG, .inl (tt 0, nG, .inl vG))]]) H := zS_subP hp9 hP
        have hD9 : va_D A (zW [[(aT, .inr (12, [.ref aCol, .int vTa, .ref aFa, .ref aRu, .int vRc, .ref aRo, .ref aLa, .ref aVa]))], [(aCol, .inl (tt 0, 5, .inl vCol))], [(aD, .inr (11, [.long vSe]))], [(aG, .inl (tt 0, nG, .inl vG))]]) := zS_subD hp9 hD
        have hR := Option.some.inj hF
        exact W.vret hx hb hr (fun t ht hW => ⟨⟨(vSe, vG), rfl, (by subst hR; rfl), by rw [ht]; exact hP9, va_K.moved hW.alike hK, hD9⟩, hS.F ht⟩) hS.2.2 dL_laysAtom_60
      · have hF := z_f c_21 hF
        refine lv_aload_n hx hb dL_laysAtom_24 rfl (lv_at hl 2 rfl) ?_
        refine lv_iload_n hx hb dL_laysAtom_25 rfl (lv_at hl 3 rfl) ?_
        refine lv_iconst (v := (1 : Int32)) hx hb dL_laysAtom_26 (by decide) ?_
        refine lv_iadd hx hb dL_laysAtom_27 ?_
        refine lv_iload hx hb dL_laysAtom_28 (lv_at hl 6 rfl) ?_
        refine lv_iadd hx hb dL_laysAtom_30 ?_
        refine lv_iload hx hb dL_laysAtom_31 (lv_at hl 6 rfl) ?_
        refine lv_aload_n hx hb dL_laysAtom_33 rfl (lv_at hl 0 rfl) ?_
        obtain ⟨k_34, hk_34, hs_34⟩ := zS_one hP 0 rfl
        refine va_get (D := G) (ci := 12) (v := .ref aCol) (C := RX13) (T := TX13) (N := 8) hx hb hts hiX13 hown hK hP k_34 hk_34 rfl 0 (by decide) (hts (.fieldLink RL 31 "LeapTablesLaw$Told" "columns" "[I") (List.mem_of_getElem? (i := 2) rfl)) (fun _ h9 => h9) rfl dL_laysAtom_34 ?_
        refine lv_iload hx hb dL_laysAtom_37 (lv_at hl 5 rfl) ?_
        obtain ⟨h_39, hF⟩ := z_in hF
        obtain ⟨k_39, hk_39, hs_39⟩ := zS_one hP 1 rfl
        refine va_iald hx hb hK hP k_39 0 hk_39 rfl h_39 dL_laysAtom_39 ?_
        refine lv_icmp_ge (tgt := 52) hx hb dL_laysAtom_40 (by decide) (fun c_40 => ?_) (fun c_40 => ?_)
        · have hF := z_t c_40 hF
          refine lv_iconst (v := (0 : Int32)) hx hb dL_laysAtom_52 (by decide) ?_
          exact hb53 _ _ _ _ _ _ _ _ _ hF hP hD hS (lv_sub hl [0, 1, 2, 3, 4, 5, 6] rfl)
        · have hF := z_f c_40 hF
          refine lv_aload_n hx hb dL_laysAtom_43 rfl (lv_at hl 1 rfl) ?_
          refine lv_iload hx hb dL_laysAtom_44 (lv_at hl 4 rfl) ?_
          obtain ⟨q46, hc_46, hF⟩ := z_bind hF
          have hp_46 : (zW [[(aT, .inr (12, [.ref aCol, .int vTa, .ref aFa, .ref aRu, .int vRc, .ref aRo, .ref aLa, .ref aVa]))], [(aCol, .inl (tt 0, 5, .inl vCol))], [(aD, .inr (11, [.long vSe]))], [(aG, .inl (tt 0, nG, .inl vG))]]).Perm (zW [[(aD, .inr (11, [.long vSe]))]] ++ zW [[(aT, .inr (12, [.ref aCol, .int vTa, .ref aFa, .ref aRu, .int vRc, .ref aRo, .ref aLa, .ref aVa]))], [(aCol, .inl (tt 0, 5, .inl vCol))], [(aG, .inl (tt 0, nG, .inl vG))]]) := zS_cut (is := [2]) (js := [0, 1, 3]) 4 rfl rfl rfl (by decide)
          refine s_backi (s_goV (As := [.int p4]) (rest := [.int ((p3 + (1 : Int32)) + x6), .ref aG]) (ci := 11) ⟨hx, hb, hml, hown, hts⟩ hK hN hX hO hAA hp_46 hP hD hS hA (oX12_next l G tt sa hlt H.size K aD vSe p4 q46 hc_46) (cwV 1 hts gL_laysAtom_X12_next rfl rfl rfl (by decide +kernel) ⟨Nat.le_of_ble_eq_true rfl, Nat.le_of_ble_eq_true rfl⟩) rfl rfl rfl hl.1 rfl (Nat.le_of_ble_eq_true rfl) dL_laysAtom_46 ⟨Nat.le_of_ble_eq_true rfl, Nat.le_of_ble_eq_true rfl⟩) hp_46 hP hD hS hA (fun r_46 u H locs hw hP hD hS => ?_)
          obtain ⟨rfl, rfl⟩ := hw
          have hP : va_P G vwCl (zW [[(aT, .inr (12, [.ref aCol, .int vTa, .ref aFa, .ref aRu, .int vRc, .ref aRo, .ref aLa, .ref aVa]))], [(aCol, .inl (tt 0, 5, .inl vCol))], [(aG, .inl (tt 0, nG, .inl vG))], [(aD, .inr (11, [.long q46.2]))]]) H := hP
          have hD : va_D A (zW [[(aT, .inr (12, [.ref aCol, .int vTa, .ref aFa, .ref aRu, .int vRc, .ref aRo, .ref aLa, .ref aVa]))], [(aCol, .inl (tt 0, 5, .inl vCol))], [(aG, .inl (tt 0, nG, .inl vG))], [(aD, .inr (11, [.long q46.2]))]]) := hD
          refine lv_goto (tgt := 53) hx hb dL_laysAtom_49 (by decide) ?_
          have hpj : (zW [[(aT, .inr (12, [.ref aCol, .int vTa, .ref aFa, .ref aRu, .int vRc, .ref aRo, .ref aLa, .ref aVa]))], [(aCol, .inl (tt 0, 5, .inl vCol))], [(aG, .inl (tt 0, nG, .inl vG))], [(aD, .inr (11, [.long q46.2]))]]).Perm (zW [[(aT, .inr (12, [.ref aCol, .int vTa, .ref aFa, .ref aRu, .int vRc, .ref aRo, .ref aLa, .ref aVa]))], [(aCol, .inl (tt 0, 5, .inl vCol))], [(aD, .inr (11, [.long q46.2]))], [(aG, .inl (tt 0, nG, .inl vG))]] ++ zW []) := zS_cut (is := [0, 1, 3, 2]) (js := []) 4 rfl rfl rfl (by decide)
          exact hb53 _ _ _ _ _ _ _ _ _ hF (zS_subP hpj hP) (zS_subD hpj hD) hS (lv_sub hl [0, 1, 2, 3, 4, 5, 6] rfl)
  obtain ⟨H, hHe⟩ : ∃ H : Heap, s.heap = H := ⟨_, rfl⟩
  have hS : va_S A s.heap H [] := by rw [← hHe]; exact va_S.rf
  rw [hHe] at hP ⊢
  unfold hL_laysAtom at hF
  refine lv_aload_n hx hb dL_laysAtom_0 rfl (lv_at hl 1 rfl) ?_
  refine lv_aload_n hx hb dL_laysAtom_1 rfl (lv_at hl 0 rfl) ?_
  obtain ⟨k_2, hk_2, hs_2⟩ := zS_one hP 0 rfl
  refine va_get (D := G) (ci := 12) (v := .int vTa) (C := RX13) (T := TX13) (N := 8) hx hb hts hiX13 hown hK hP k_2 hk_2 rfl 1 (by decide) (hts (.fieldLink RL 43 "LeapTablesLaw$Told" "tables" "I") (List.mem_of_getElem? (i := 1) rfl)) (fun _ h9 => h9) rfl dL_laysAtom_2 ?_
  obtain ⟨q5, hc_5, hF⟩ := z_bind hF
  have hp_5 : (zW [[(aT, .inr (12, [.ref aCol, .int vTa, .ref aFa, .ref aRu, .int vRc, .ref aRo, .ref aLa, .ref aVa]))], [(aCol, .inl (tt 0, 5, .inl vCol))], [(aD, .inr (11, [.long vSe]))], [(aG, .inl (tt 0, nG, .inl vG))]]).Perm (zW [[(aD, .inr (11, [.long vSe]))]] ++ zW [[(aT, .inr (12, [.ref aCol, .int vTa, .ref aFa, .ref aRu, .int vRc, .ref aRo, .ref aLa, .ref aVa]))], [(aCol, .inl (tt 0, 5, .inl vCol))], [(aG, .inl (tt 0, nG, .inl vG))]]) := zS_cut (is := [2]) (js := [0, 1, 3]) 4 rfl rfl rfl (by decide)
  refine s_backi (s_goV (As := [.int vTa]) (rest := []) (ci := 11) ⟨hx, hb, hml, hown, hts⟩ hK hN hX hO hAA hp_5 hP hD hS hA (oX12_next l G tt sa hlt H.size K aD vSe vTa q5 hc_5) (cwV 1 hts gL_laysAtom_X12_next rfl rfl rfl (by decide +kernel) ⟨Nat.le_of_ble_eq_true rfl, Nat.le_of_ble_eq_true rfl⟩) rfl rfl rfl hl.1 rfl (Nat.le_of_ble_eq_true rfl) dL_laysAtom_5 ⟨Nat.le_of_ble_eq_true rfl, Nat.le_of_ble_eq_true rfl⟩) hp_5 hP hD hS hA (fun r_5 u H locs hw hP hD hS => ?_)
  obtain ⟨rfl, rfl⟩ := hw
  have hP : va_P G vwCl (zW [[(aT, .inr (12, [.ref aCol, .int vTa, .ref aFa, .ref aRu, .int vRc, .ref aRo, .ref aLa, .ref aVa]))], [(aCol, .inl (tt 0, 5, .inl vCol))], [(aG, .inl (tt 0, nG, .inl vG))], [(aD, .inr (11, [.long q5.2]))]]) H := hP
  have hD : va_D A (zW [[(aT, .inr (12, [.ref aCol, .int vTa, .ref aFa, .ref aRu, .int vRc, .ref aRo, .ref aLa, .ref aVa]))], [(aCol, .inl (tt 0, 5, .inl vCol))], [(aG, .inl (tt 0, nG, .inl vG))], [(aD, .inr (11, [.long q5.2]))]]) := hD
  refine lv_istore (lv' := [(5, .int q5.1), (0, .ref aT), (1, .ref aD), (2, .ref aG), (3, .int p3), (4, .int p4)]) hx hb dL_laysAtom_8 hl (by decide) rfl (fun ls hl => ?_)
  refine lv_aload_n hx hb dL_laysAtom_10 rfl (lv_at hl 3 rfl) ?_
  refine lv_iload_n hx hb dL_laysAtom_11 rfl (lv_at hl 4 rfl) ?_
  refine lv_iload hx hb dL_laysAtom_12 (lv_at hl 0 rfl) ?_
  obtain ⟨h_14, hF⟩ := z_in hF
  obtain ⟨k_14, hk_14, hs_14⟩ := zS_one hP 2 rfl
  refine va_iast hx hb hK hP hD hS k_14 0 hk_14 rfl h_14 dL_laysAtom_14 (fun H locs hP hD hS => ?_)
  rw [hs_14] at hP hD
  have hP : va_P G vwCl (zW [[(aT, .inr (12, [.ref aCol, .int vTa, .ref aFa, .ref aRu, .int vRc, .ref aRo, .ref aLa, .ref aVa]))], [(aCol, .inl (tt 0, 5, .inl vCol))], [(aG, .inl (tt 0, nG, .inl (upd vG p3.toNatClampNeg q5.1)))], [(aD, .inr (11, [.long q5.2]))]]) H := hP
  have hD : va_D A (zW [[(aT, .inr (12, [.ref aCol, .int vTa, .ref aFa, .ref aRu, .int vRc, .ref aRo, .ref aLa, .ref aVa]))], [(aCol, .inl (tt 0, 5, .inl vCol))], [(aG, .inl (tt 0, nG, .inl (upd vG p3.toNatClampNeg q5.1)))], [(aD, .inr (11, [.long q5.2]))]]) := hD
  refine lv_iconst (v := (0 : Int32)) hx hb dL_laysAtom_15 (by decide) ?_
  refine lv_istore (lv' := [(6, .int (0 : Int32)), (5, .int q5.1), (0, .ref aT), (1, .ref aD), (2, .ref aG), (3, .int p3), (4, .int p4)]) hx hb dL_laysAtom_16 hl (by decide) rfl (fun ls hl => ?_)
  have hpj : (zW [[(aT, .inr (12, [.ref aCol, .int vTa, .ref aFa, .ref aRu, .int vRc, .ref aRo, .ref aLa, .ref aVa]))], [(aCol, .inl (tt 0, 5, .inl vCol))], [(aG, .inl (tt 0, nG, .inl (upd vG p3.toNatClampNeg q5.1)))], [(aD, .inr (11, [.long q5.2]))]]).Perm (zW [[(aT, .inr (12, [.ref aCol, .int vTa, .ref aFa, .ref aRu, .int vRc, .ref aRo, .ref aLa, .ref aVa]))], [(aCol, .inl (tt 0, 5, .inl vCol))], [(aD, .inr (11, [.long q5.2]))], [(aG, .inl (tt 0, nG, .inl (upd vG p3.toNatClampNeg q5.1)))]] ++ zW []) := zS_cut (is := [0, 1, 3, 2]) (js := []) 4 rfl rfl rfl (by decide)
  exact hb18 K _ _ _ _ _ _ _ hF (zS_subP hpj hP) (zS_subD hpj hD) hS (lv_sub hl [2, 3, 4, 5, 6, 1, 0] rfl)

set_option maxHeartbeats 8000000 in
set_option maxRecDepth 100000 in
theorem oL_fitAll (l : Launch) (G : va_G) (tt : Nat → ClassId) (sa : Nat → Nat) (hlt : l.stackTraces = false) (sz : Nat) (K : Nat) (nA : Nat) (aT : Nat) (aCol : Nat) (aFa : Nat) (aRu : Nat) (aRo : Nat) (aLa : Nat) (aVa : Nat) (eRo : Nat → Nat) (aA : Nat) (eA : Nat → Nat) (vTa : Int32) (vRc : Int32) (vCol : Nat → Int32) (vRo : Nat → Nat → Int32) (vVa : Nat → Int32) (vA : Nat → Nat → Int32) (p2 : Int32) (RR : Bool) (hF : hL_fitAll K nA vCol vRo vVa vA p2 = some RR) : Met l yL_fitAll wsL_fitAll ({ frames := 3, cells := 0, slots := 0, locals := 106 } : Room) (zPreQ G (zTy tt) sa [.ref aT, .ref aA, .int p2] sz (zW [[(aT, .inr (12, [.ref aCol, .int vTa, .ref aFa, .ref aRu, .int vRc, .ref aRo, .ref aLa, .ref aVa]))], [(aCol, .inl (tt 0, 5, .inl vCol))], [(aRo, .inl (tt 6, 5, .inr (.inr (.inr (.inr (fun j => some (eRo j)))))))], (wA eRo (tt 2) 5 512 vRo), [(aVa, .inl (tt 0, 4, .inl vVa))], [(aA, .inl (tt 5, nA, .inr (.inr (.inr (.inr (fun j => some (eA j)))))))], (wA eA (tt 0) nA 4 vA)])) (va_Qi (fun (r : Int32) (_ : Unit) => r = bI RR) (zAt G (zTy tt) (va_A (zW [[(aT, .inr (12, [.ref aCol, .int vTa, .ref aFa, .ref aRu, .int vRc, .ref aRo, .ref aLa, .ref aVa]))], [(aCol, .inl (tt 0, 5, .inl vCol))], [(aRo, .inl (tt 6, 5, .inr (.inr (.inr (.inr (fun j => some (eRo j)))))))], (wA eRo (tt 2) 5 512 vRo), [(aVa, .inl (tt 0, 4, .inl vVa))], [(aA, .inl (tt 5, nA, .inr (.inr (.inr (.inr (fun j => some (eA j)))))))], (wA eA (tt 0) nA 4 vA)]) sz) (fun _ : Unit => zW [[(aT, .inr (12, [.ref aCol, .int vTa, .ref aFa, .ref aRu, .int vRc, .ref aRo, .ref aLa, .ref aVa]))], [(aCol, .inl (tt 0, 5, .inl vCol))], [(aRo, .inl (tt 6, 5, .inr (.inr (.inr (.inr (fun j => some (eRo j)))))))], (wA eRo (tt 2) 5 512 vRo), [(aVa, .inl (tt 0, 4, .inl vVa))], [(aA, .inl (tt 5, nA, .inr (.inr (.inr (.inr (fun j => some (eA j)))))))], (wA eA (tt 0) nA 4 vA)])) (va_A (zW [[(aT, .inr (12, [.ref aCol, .int vTa, .ref aFa, .ref aRu, .int vRc, .ref aRo, .ref aLa, .ref aVa]))], [(aCol, .inl (tt 0, 5, .inl vCol))], [(aRo, .inl (tt 6, 5, .inr (.inr (.inr (.inr (fun j => some (eRo j)))))))], (wA eRo (tt 2) 5 512 vRo), [(aVa, .inl (tt 0, 4, .inl vVa))], [(aA, .inl (tt 5, nA, .inr (.inr (.inr (.inr (fun j => some (eA j)))))))], (wA eA (tt 0) nA 4 vA)]) sz)) 0 0 (va_A (zW [[(aT, .inr (12, [.ref aCol, .int vTa, .ref aFa, .ref aRu, .int vRc, .ref aRo, .ref aLa, .ref aVa]))], [(aCol, .inl (tt 0, 5, .inl vCol))], [(aRo, .inl (tt 6, 5, .inr (.inr (.inr (.inr (fun j => some (eRo j)))))))], (wA eRo (tt 2) 5 512 vRo), [(aVa, .inl (tt 0, 4, .inl vVa))], [(aA, .inl (tt 5, nA, .inr (.inr (.inr (.inr (fun j => some (eA j)))))))], (wA eA (tt 0) nA 4 vA)]) sz) := by
  refine Met.ofW (cc := cL_fitAll) (maxL := 5) (ret := (some .boolean)) (by decide +kernel) rfl ?_
  intro p e s m args below meth c s₁ B hml hv
  obtain ⟨rfl, hsz, hP, hK, hD0, hN, hX, hO, hAA⟩ := hv
  have hx := B.exec
  have hb := B.bytes
  have hr := B.returns
  have hts := atoms_spec (ws := wsL_fitAll) B.pre
  have hown : s.vm.findClass RL = some m.cls := findClass_of_methodNamed B.named
  have hlocks := B.notSynchronized
  subst hsz
  have hD := hD0.self (sz := s.heap.size)
  generalize hAe : va_A (zW [[(aT, .inr (12, [.ref aCol, .int vTa, .ref aFa, .ref aRu, .int vRc, .ref aRo, .ref aLa, .ref aVa]))], [(aCol, .inl (tt 0, 5, .inl vCol))], [(aRo, .inl (tt 6, 5, .inr (.inr (.inr (.inr (fun j => some (eRo j)))))))], (wA eRo (tt 2) 5 512 vRo), [(aVa, .inl (tt 0, 4, .inl vVa))], [(aA, .inl (tt 5, nA, .inr (.inr (.inr (.inr (fun j => some (eA j)))))))], (wA eA (tt 0) nA 4 vA)]) s.heap.size = A at hD hX ⊢
  have hA : ∀ q : Nat, s.heap.size ≤ q → A q := fun q h => by rw [← hAe]; exact Or.inr h
  have hP : va_P G vwCl (zW [[(aT, .inr (12, [.ref aCol, .int vTa, .ref aFa, .ref aRu, .int vRc, .ref aRo, .ref aLa, .ref aVa]))], [(aCol, .inl (tt 0, 5, .inl vCol))], [(aRo, .inl (tt 6, 5, .inr (.inr (.inr (.inr (fun j => some (eRo j)))))))], (wA eRo (tt 2) 5 512 vRo), [(aVa, .inl (tt 0, 4, .inl vVa))], [(aA, .inl (tt 5, nA, .inr (.inr (.inr (.inr (fun j => some (eA j)))))))], (wA eA (tt 0) nA 4 vA)]) s.heap := hP
  have hl := lv_entry ([.ref aT, .ref aA, .int p2]) (n := 5) (Nat.le_of_ble_eq_true rfl)
  rw [lg_entry_eq]
  generalize (lg_sl ([.ref aT, .ref aA, .int p2]) ++ List.replicate (5 - (lg_sl ([.ref aT, .ref aA, .int p2])).length) Slot.unset).toArray = ls at hl ⊢
  have hl : lv_has ls 5 [(0, .ref aT), (1, .ref aA), (2, .int p2)] := hl
  have hb5 : ∀ (k5 : Nat), ∀ (x3 : Int32) (x4 : Int32)  (H : Heap) (locs : List Loc) (ls : Array Slot), hL_fitAll_5 K nA vCol vRo vVa vA p2 k5 x3 x4 = some RR → va_P G vwCl (zW [[(aT, .inr (12, [.ref aCol, .int vTa, .ref aFa, .ref aRu, .int vRc, .ref aRo, .ref aLa, .ref aVa]))], [(aCol, .inl (tt 0, 5, .inl vCol))], [(aRo, .inl (tt 6, 5, .inr (.inr (.inr (.inr (fun j => some (eRo j)))))))], (wA eRo (tt 2) 5 512 vRo), [(aVa, .inl (tt 0, 4, .inl vVa))], [(aA, .inl (tt 5, nA, .inr (.inr (.inr (.inr (fun j => some (eA j)))))))], (wA eA (tt 0) nA 4 vA)]) H → va_D A (zW [[(aT, .inr (12, [.ref aCol, .int vTa, .ref aFa, .ref aRu, .int vRc, .ref aRo, .ref aLa, .ref aVa]))], [(aCol, .inl (tt 0, 5, .inl vCol))], [(aRo, .inl (tt 6, 5, .inr (.inr (.inr (.inr (fun j => some (eRo j)))))))], (wA eRo (tt 2) 5 512 vRo), [(aVa, .inl (tt 0, 4, .inl vVa))], [(aA, .inl (tt 5, nA, .inr (.inr (.inr (.inr (fun j => some (eA j)))))))], (wA eA (tt 0) nA 4 vA)]) → va_S A s.heap H locs → lv_has ls 5 [(0, .ref aT), (1, .ref aA), (2, .int p2), (3, .int x3), (4, .int x4)] → W p l e (headSpec wsL_fitAll ({ frames := 3, cells := 0, slots := 0, locals := 106 } : Room)).room s m ([.ref aT, .ref aA, .int p2] : List Value).toArray below meth c H locs 0 0 (MQ below (va_Qi (fun (r : Int32) (_ : Unit) => r = bI RR) (zAt G (zTy tt) A (fun _ : Unit => zW [[(aT, .inr (12, [.ref aCol, .int vTa, .ref aFa, .ref aRu, .int vRc, .ref aRo, .ref aLa, .ref aVa]))], [(aCol, .inl (tt 0, 5, .inl vCol))], [(aRo, .inl (tt 6, 5, .inr (.inr (.inr (.inr (fun j => some (eRo j)))))))], (wA eRo (tt 2) 5 512 vRo), [(aVa, .inl (tt 0, 4, .inl vVa))], [(aA, .inl (tt 5, nA, .inr (.inr (.inr (.inr (fun j => some (eA j)))))))], (wA eA (tt 0) nA 4 vA)])) A) ([.ref aT, .ref aA, .int p2] : List Value).toArray s 0 0 A) (F0 m 5 ls []) := by
    intro k5
    induction k5 with
    | zero => intro x3 x4 H locs ls hF; rw [hL_fitAll_5] at hF; cases hF
    | succ k5 ih5 =>
      intro x3 x4 H locs ls hF hP hD hS hl
      rw [hL_fitAll_5] at hF
      refine lv_iload hx hb dL_fitAll_5 (lv_at hl 4 rfl) ?_
      refine lv_iload_n hx hb dL_fitAll_7 rfl (lv_at hl 2 rfl) ?_
      refine lv_icmp_ge (tgt := 31) hx hb dL_fitAll_8 (by decide) (fun c_8 => ?_) (fun c_8 => ?_)
      · have hF := z_t c_8 hF
        refine lv_iload_n hx hb dL_fitAll_31 rfl (lv_at hl 3 rfl) ?_
        have hp9 : (zW [[(aT, .inr (12, [.ref aCol, .int vTa, .ref aFa, .ref aRu, .int vRc, .ref aRo, .ref aLa, .ref aVa]))], [(aCol, .inl (tt 0, 5, .inl vCol))], [(aRo, .inl (tt 6, 5, .inr (.inr (.inr (.inr (fun j => some (eRo j)))))))], (wA eRo (tt 2) 5 512 vRo), [(aVa, .inl (tt 0, 4, .inl vVa))], [(aA, .inl (tt 5, nA, .inr (.inr (.inr (.inr (fun j => some (eA j)))))))], (wA eA (tt 0) nA 4 vA)]).Perm (zW [[(aT, .inr (12, [.ref aCol, .int vTa, .ref aFa, .ref aRu, .int vRc, .ref aRo, .ref aLa, .ref aVa]))], [(aCol, .inl (tt 0, 5, .inl vCol))], [(aRo, .inl (tt 6, 5, .inr (.inr (.inr (.inr (fun j => some (eRo j)))))))], (wA eRo (tt 2) 5 512 vRo), [(aVa, .inl (tt 0, 4, .inl vVa))], [(aA, .inl (tt 5, nA, .inr (.inr (.inr (.inr (fun j => some (eA j)))))))], (wA eA (tt 0) nA 4 vA)] ++ zW []) := zS_cut (is := [0, 1, 2, 3, 4, 5, 6]) (js := []) 7 rfl rfl rfl (by decide)
        have hP9 : va_P G vwCl (zW [[(aT, .inr (12, [.ref aCol, .int vTa, .ref aFa, .ref aRu, .int vRc, .ref aRo, .ref aLa, .ref aVa]))], [(aCol, .inl (tt 0, 5, .inl vCol))], [(aRo, .inl (tt 6, 5, .inr (.inr (.inr (.inr (fun j => some (eRo j)))))))], (wA eRo (tt 2) 5 512 vRo), [(aVa, .inl (tt 0, 4, .inl vVa))], [(aA, .inl (tt 5, nA, .inr (.inr (.inr (.inr (fun j => some (eA j)))))))], (wA eA (tt 0) nA 4 vA)]) H := zS_subP hp9 hP
        have hD9 : va_D A (zW [[(aT, .inr (12, [.ref aCol, .int vTa, .ref aFa, .ref aRu, .int vRc, .ref aRo, .ref aLa, .ref aVa]))], [(aCol, .inl (tt 0, 5, .inl vCol))], [(aRo, .inl (tt 6, 5, .inr (.inr (.inr (.inr (fun j => some (eRo j)))))))], (wA eRo (tt 2) 5 512 vRo), [(aVa, .inl (tt 0, 4, .inl vVa))], [(aA, .inl (tt 5, nA, .inr (.inr (.inr (.inr (fun j => some (eA j)))))))], (wA eA (tt 0) nA 4 vA)]) := zS_subD hp9 hD
        refine lv_topi (fun y_32 ey_32 => ?_)
        rcases z_bool hF with ⟨eb, hF⟩ | ⟨eb, hF⟩
        · have ez := ey_32.trans eb
          subst ez
          have hR := Option.some.inj hF
          exact W.zret (v := (0 : Int32)) hx hb hr rfl (fun t ht hW => ⟨⟨(0 : Int32), (), rfl, (by subst hR; rfl), by rw [ht]; exact hP9, va_K.moved hW.alike hK, hD9⟩, hS.F ht⟩) hS.2.2 dL_fitAll_32
        · have ez := ey_32.trans eb
          subst ez
          have hR := Option.some.inj hF
          exact W.zret (v := (1 : Int32)) hx hb hr rfl (fun t ht hW => ⟨⟨(1 : Int32), (), rfl, (by subst hR; rfl), by rw [ht]; exact hP9, va_K.moved hW.alike hK, hD9⟩, hS.F ht⟩) hS.2.2 dL_fitAll_32
      · have hF := z_f c_8 hF
        refine lv_iload_n hx hb dL_fitAll_11 rfl (lv_at hl 3 rfl) ?_
        refine lv_if_eq (tgt := 31) hx hb dL_fitAll_12 (by decide) (fun c_12 => ?_) (fun c_12 => ?_)
        · have hF := z_t c_12 hF
          refine lv_iload_n hx hb dL_fitAll_31 rfl (lv_at hl 3 rfl) ?_
          have hp9 : (zW [[(aT, .inr (12, [.ref aCol, .int vTa, .ref aFa, .ref aRu, .int vRc, .ref aRo, .ref aLa, .ref aVa]))], [(aCol, .inl (tt 0, 5, .inl vCol))], [(aRo, .inl (tt 6, 5, .inr (.inr (.inr (.inr (fun j => some (eRo j)))))))], (wA eRo (tt 2) 5 512 vRo), [(aVa, .inl (tt 0, 4, .inl vVa))], [(aA, .inl (tt 5, nA, .inr (.inr (.inr (.inr (fun j => some (eA j)))))))], (wA eA (tt 0) nA 4 vA)]).Perm (zW [[(aT, .inr (12, [.ref aCol, .int vTa, .ref aFa, .ref aRu, .int vRc, .ref aRo, .ref aLa, .ref aVa]))], [(aCol, .inl (tt 0, 5, .inl vCol))], [(aRo, .inl (tt 6, 5, .inr (.inr (.inr (.inr (fun j => some (eRo j)))))))], (wA eRo (tt 2) 5 512 vRo), [(aVa, .inl (tt 0, 4, .inl vVa))], [(aA, .inl (tt 5, nA, .inr (.inr (.inr (.inr (fun j => some (eA j)))))))], (wA eA (tt 0) nA 4 vA)] ++ zW []) := zS_cut (is := [0, 1, 2, 3, 4, 5, 6]) (js := []) 7 rfl rfl rfl (by decide)
          have hP9 : va_P G vwCl (zW [[(aT, .inr (12, [.ref aCol, .int vTa, .ref aFa, .ref aRu, .int vRc, .ref aRo, .ref aLa, .ref aVa]))], [(aCol, .inl (tt 0, 5, .inl vCol))], [(aRo, .inl (tt 6, 5, .inr (.inr (.inr (.inr (fun j => some (eRo j)))))))], (wA eRo (tt 2) 5 512 vRo), [(aVa, .inl (tt 0, 4, .inl vVa))], [(aA, .inl (tt 5, nA, .inr (.inr (.inr (.inr (fun j => some (eA j)))))))], (wA eA (tt 0) nA 4 vA)]) H := zS_subP hp9 hP
          have hD9 : va_D A (zW [[(aT, .inr (12, [.ref aCol, .int vTa, .ref aFa, .ref aRu, .int vRc, .ref aRo, .ref aLa, .ref aVa]))], [(aCol, .inl (tt 0, 5, .inl vCol))], [(aRo, .inl (tt 6, 5, .inr (.inr (.inr (.inr (fun j => some (eRo j)))))))], (wA eRo (tt 2) 5 512 vRo), [(aVa, .inl (tt 0, 4, .inl vVa))], [(aA, .inl (tt 5, nA, .inr (.inr (.inr (.inr (fun j => some (eA j)))))))], (wA eA (tt 0) nA 4 vA)]) := zS_subD hp9 hD
          refine lv_topi (fun y_32 ey_32 => ?_)
          rcases z_bool hF with ⟨eb, hF⟩ | ⟨eb, hF⟩
          · have ez := ey_32.trans eb
            subst ez
            have hR := Option.some.inj hF
            exact W.zret (v := (0 : Int32)) hx hb hr rfl (fun t ht hW => ⟨⟨(0 : Int32), (), rfl, (by subst hR; rfl), by rw [ht]; exact hP9, va_K.moved hW.alike hK, hD9⟩, hS.F ht⟩) hS.2.2 dL_fitAll_32
          · have ez := ey_32.trans eb
            subst ez
            have hR := Option.some.inj hF
            exact W.zret (v := (1 : Int32)) hx hb hr rfl (fun t ht hW => ⟨⟨(1 : Int32), (), rfl, (by subst hR; rfl), by rw [ht]; exact hP9, va_K.moved hW.alike hK, hD9⟩, hS.F ht⟩) hS.2.2 dL_fitAll_32
        · have hF := z_f c_12 hF
          refine lv_aload_n hx hb dL_fitAll_15 rfl (lv_at hl 0 rfl) ?_
          refine lv_aload_n hx hb dL_fitAll_16 rfl (lv_at hl 1 rfl) ?_
          refine lv_iload hx hb dL_fitAll_17 (lv_at hl 4 rfl) ?_
          obtain ⟨h_19, hF⟩ := z_in hF
          obtain ⟨k_19, hk_19, hs_19⟩ := zS_one hP 5 rfl
          refine zA_aald (f := eA) hx hb hK hP k_19 5 hk_19 rfl h_19 dL_fitAll_19 ?_
          refine lv_iconst (v := (0 : Int32)) hx hb dL_fitAll_20 (by decide) ?_
          have hP := zP_perm (zS_pull (C := [[(aT, .inr (12, [.ref aCol, .int vTa, .ref aFa, .ref aRu, .int vRc, .ref aRo, .ref aLa, .ref aVa]))], [(aCol, .inl (tt 0, 5, .inl vCol))], [(aRo, .inl (tt 6, 5, .inr (.inr (.inr (.inr (fun j => some (eRo j)))))))], (wA eRo (tt 2) 5 512 vRo), [(aVa, .inl (tt 0, 4, .inl vVa))], [(aA, .inl (tt 5, nA, .inr (.inr (.inr (.inr (fun j => some (eA j)))))))]]) (is := [0, 1, 2, 3, 4, 5]) 7 rfl 6 rfl (zlt_of h_19) rfl (by decide)) hP
          have hD := zD_perm (zS_pull (C := [[(aT, .inr (12, [.ref aCol, .int vTa, .ref aFa, .ref aRu, .int vRc, .ref aRo, .ref aLa, .ref aVa]))], [(aCol, .inl (tt 0, 5, .inl vCol))], [(aRo, .inl (tt 6, 5, .inr (.inr (.inr (.inr (fun j => some (eRo j)))))))], (wA eRo (tt 2) 5 512 vRo), [(aVa, .inl (tt 0, 4, .inl vVa))], [(aA, .inl (tt 5, nA, .inr (.inr (.inr (.inr (fun j => some (eA j)))))))]]) (is := [0, 1, 2, 3, 4, 5]) 7 rfl 6 rfl (zlt_of h_19) rfl (by decide)) hD
          have hP : va_P G vwCl (zW [[(aT, .inr (12, [.ref aCol, .int vTa, .ref aFa, .ref aRu, .int vRc, .ref aRo, .ref aLa, .ref aVa]))], [(aCol, .inl (tt 0, 5, .inl vCol))], [(aRo, .inl (tt 6, 5, .inr (.inr (.inr (.inr (fun j => some (eRo j)))))))], (wA eRo (tt 2) 5 512 vRo), [(aVa, .inl (tt 0, 4, .inl vVa))], [(aA, .inl (tt 5, nA, .inr (.inr (.inr (.inr (fun j => some (eA j)))))))], [((eA x4.toNatClampNeg), .inl (tt 0, 4, .inl (vA x4.toNatClampNeg)))], (wAx eA (tt 0) nA 4 vA x4.toNatClampNeg)]) H := hP
          have hD : va_D A (zW [[(aT, .inr (12, [.ref aCol, .int vTa, .ref aFa, .ref aRu, .int vRc, .ref aRo, .ref aLa, .ref aVa]))], [(aCol, .inl (tt 0, 5, .inl vCol))], [(aRo, .inl (tt 6, 5, .inr (.inr (.inr (.inr (fun j => some (eRo j)))))))], (wA eRo (tt 2) 5 512 vRo), [(aVa, .inl (tt 0, 4, .inl vVa))], [(aA, .inl (tt 5, nA, .inr (.inr (.inr (.inr (fun j => some (eA j)))))))], [((eA x4.toNatClampNeg), .inl (tt 0, 4, .inl (vA x4.toNatClampNeg)))], (wAx eA (tt 0) nA 4 vA x4.toNatClampNeg)]) := hD
          obtain ⟨q21, hc_21, hF⟩ := z_bind hF
          have hp_21 : (zW [[(aT, .inr (12, [.ref aCol, .int vTa, .ref aFa, .ref aRu, .int vRc, .ref aRo, .ref aLa, .ref aVa]))], [(aCol, .inl (tt 0, 5, .inl vCol))], [(aRo, .inl (tt 6, 5, .inr (.inr (.inr (.inr (fun j => some (eRo j)))))))], (wA eRo (tt 2) 5 512 vRo), [(aVa, .inl (tt 0, 4, .inl vVa))], [(aA, .inl (tt 5, nA, .inr (.inr (.inr (.inr (fun j => some (eA j)))))))], [((eA x4.toNatClampNeg), .inl (tt 0, 4, .inl (vA x4.toNatClampNeg)))], (wAx eA (tt 0) nA 4 vA x4.toNatClampNeg)]).Perm (zW [[(aT, .inr (12, [.ref aCol, .int vTa, .ref aFa, .ref aRu, .int vRc, .ref aRo, .ref aLa, .ref aVa]))], [(aCol, .inl (tt 0, 5, .inl vCol))], [(aRo, .inl (tt 6, 5, .inr (.inr (.inr (.inr (fun j => some (eRo j)))))))], (wA eRo (tt 2) 5 512 vRo), [(aVa, .inl (tt 0, 4, .inl vVa))], [((eA x4.toNatClampNeg), .inl (tt 0, 4, .inl (vA x4.toNatClampNeg)))]] ++ zW [[(aA, .inl (tt 5, nA, .inr (.inr (.inr (.inr (fun j => some (eA j)))))))], (wAx eA (tt 0) nA 4 vA x4.toNatClampNeg)]) := zS_cut (is := [0, 1, 2, 3, 4, 6]) (js := [5, 7]) 8 rfl rfl rfl (by decide)
          refine s_backi (s_goV (As := [.ref (eA x4.toNatClampNeg), .int (0 : Int32)]) (rest := []) (ci := 12) ⟨hx, hb, hml, hown, hts⟩ hK hN hX hO hAA hp_21 hP hD hS hA (oX13_fits l G tt sa hlt H.size K 4 aT aCol aFa aRu aRo aLa aVa eRo (eA x4.toNatClampNeg) vTa vRc vCol vRo vVa (vA x4.toNatClampNeg) (0 : Int32) q21 hc_21) (cwV 2 hts gL_fitAll_X13_fits rfl rfl rfl (by decide +kernel) ⟨Nat.le_of_ble_eq_true rfl, Nat.le_of_ble_eq_true rfl⟩) rfl rfl rfl hl.1 rfl (Nat.le_of_ble_eq_true rfl) dL_fitAll_21 ⟨Nat.le_of_ble_eq_true rfl, Nat.le_of_ble_eq_true rfl⟩) hp_21 hP hD hS hA (fun r_21 u H locs hw hP hD hS => ?_)
          replace hw := hw.symm; subst hw
          have hP : va_P G vwCl (zW [[(aA, .inl (tt 5, nA, .inr (.inr (.inr (.inr (fun j => some (eA j)))))))], (wAx eA (tt 0) nA 4 vA x4.toNatClampNeg), [(aT, .inr (12, [.ref aCol, .int vTa, .ref aFa, .ref aRu, .int vRc, .ref aRo, .ref aLa, .ref aVa]))], [(aCol, .inl (tt 0, 5, .inl vCol))], [(aRo, .inl (tt 6, 5, .inr (.inr (.inr (.inr (fun j => some (eRo j)))))))], (wA eRo (tt 2) 5 512 vRo), [(aVa, .inl (tt 0, 4, .inl vVa))], [((eA x4.toNatClampNeg), .inl (tt 0, 4, .inl (vA x4.toNatClampNeg)))]]) H := hP
          have hD : va_D A (zW [[(aA, .inl (tt 5, nA, .inr (.inr (.inr (.inr (fun j => some (eA j)))))))], (wAx eA (tt 0) nA 4 vA x4.toNatClampNeg), [(aT, .inr (12, [.ref aCol, .int vTa, .ref aFa, .ref aRu, .int vRc, .ref aRo, .ref aLa, .ref aVa]))], [(aCol, .inl (tt 0, 5, .inl vCol))], [(aRo, .inl (tt 6, 5, .inr (.inr (.inr (.inr (fun j => some (eRo j)))))))], (wA eRo (tt 2) 5 512 vRo), [(aVa, .inl (tt 0, 4, .inl vVa))], [((eA x4.toNatClampNeg), .inl (tt 0, 4, .inl (vA x4.toNatClampNeg)))]]) := hD
          have hP := zP_perm (zS_stay (C := [[(aA, .inl (tt 5, nA, .inr (.inr (.inr (.inr (fun j => some (eA j)))))))], [(aT, .inr (12, [.ref aCol, .int vTa, .ref aFa, .ref aRu, .int vRc, .ref aRo, .ref aLa, .ref aVa]))], [(aCol, .inl (tt 0, 5, .inl vCol))], [(aRo, .inl (tt 6, 5, .inr (.inr (.inr (.inr (fun j => some (eRo j)))))))], (wA eRo (tt 2) 5 512 vRo), [(aVa, .inl (tt 0, 4, .inl vVa))]]) (is := [0, 2, 3, 4, 5, 6]) 8 rfl 7 1 rfl rfl (zlt_of h_19) rfl (by decide)) hP
          have hD := zD_perm (zS_stay (C := [[(aA, .inl (tt 5, nA, .inr (.inr (.inr (.inr (fun j => some (eA j)))))))], [(aT, .inr (12, [.ref aCol, .int vTa, .ref aFa, .ref aRu, .int vRc, .ref aRo, .ref aLa, .ref aVa]))], [(aCol, .inl (tt 0, 5, .inl vCol))], [(aRo, .inl (tt 6, 5, .inr (.inr (.inr (.inr (fun j => some (eRo j)))))))], (wA eRo (tt 2) 5 512 vRo), [(aVa, .inl (tt 0, 4, .inl vVa))]]) (is := [0, 2, 3, 4, 5, 6]) 8 rfl 7 1 rfl rfl (zlt_of h_19) rfl (by decide)) hD
          have hP : va_P G vwCl (zW [[(aA, .inl (tt 5, nA, .inr (.inr (.inr (.inr (fun j => some (eA j)))))))], [(aT, .inr (12, [.ref aCol, .int vTa, .ref aFa, .ref aRu, .int vRc, .ref aRo, .ref aLa, .ref aVa]))], [(aCol, .inl (tt 0, 5, .inl vCol))], [(aRo, .inl (tt 6, 5, .inr (.inr (.inr (.inr (fun j => some (eRo j)))))))], (wA eRo (tt 2) 5 512 vRo), [(aVa, .inl (tt 0, 4, .inl vVa))], (wA eA (tt 0) nA 4 vA)]) H := hP
          have hD : va_D A (zW [[(aA, .inl (tt 5, nA, .inr (.inr (.inr (.inr (fun j => some (eA j)))))))], [(aT, .inr (12, [.ref aCol, .int vTa, .ref aFa, .ref aRu, .int vRc, .ref aRo, .ref aLa, .ref aVa]))], [(aCol, .inl (tt 0, 5, .inl vCol))], [(aRo, .inl (tt 6, 5, .inr (.inr (.inr (.inr (fun j => some (eRo j)))))))], (wA eRo (tt 2) 5 512 vRo), [(aVa, .inl (tt 0, 4, .inl vVa))], (wA eA (tt 0) nA 4 vA)]) := hD
          refine lv_istore_n (lv' := [(3, .int (bI q21)), (0, .ref aT), (1, .ref aA), (2, .int p2), (4, .int x4)]) hx hb dL_fitAll_24 rfl hl (by decide) rfl (fun ls hl => ?_)
          refine lv_iinc (v := (x4 + (1 : Int32))) (lv' := [(4, .int (x4 + (1 : Int32))), (3, .int (bI q21)), (0, .ref aT), (1, .ref aA), (2, .int p2)]) hx hb dL_fitAll_25 hl (k := 4) rfl rfl (by decide) rfl (fun ls hl => ?_)
          refine lv_goto (tgt := 5) hx hb dL_fitAll_28 (by decide) ?_
          have hpj : (zW [[(aA, .inl (tt 5, nA, .inr (.inr (.inr (.inr (fun j => some (eA j)))))))], [(aT, .inr (12, [.ref aCol, .int vTa, .ref aFa, .ref aRu, .int vRc, .ref aRo, .ref aLa, .ref aVa]))], [(aCol, .inl (tt 0, 5, .inl vCol))], [(aRo, .inl (tt 6, 5, .inr (.inr (.inr (.inr (fun j => some (eRo j)))))))], (wA eRo (tt 2) 5 512 vRo), [(aVa, .inl (tt 0, 4, .inl vVa))], (wA eA (tt 0) nA 4 vA)]).Perm (zW [[(aT, .inr (12, [.ref aCol, .int vTa, .ref aFa, .ref aRu, .int vRc, .ref aRo, .ref aLa, .ref aVa]))], [(aCol, .inl (tt 0, 5, .inl vCol))], [(aRo, .inl (tt 6, 5, .inr (.inr (.inr (.inr (fun j => some (eRo j)))))))], (wA eRo (tt 2) 5 512 vRo), [(aVa, .inl (tt 0, 4, .inl vVa))], [(aA, .inl (tt 5, nA, .inr (.inr (.inr (.inr (fun j => some (eA j)))))))], (wA eA (tt 0) nA 4 vA)] ++ zW []) := zS_cut (is := [1, 2, 3, 4, 5, 0, 6]) (js := []) 7 rfl rfl rfl (by decide)
          exact ih5 _ _ _ _ _ hF (zS_subP hpj hP) (zS_subD hpj hD) hS (lv_sub hl [2, 3, 4, 1, 0] rfl)
  obtain ⟨H, hHe⟩ : ∃ H : Heap, s.heap = H := ⟨_, rfl⟩
  have hS : va_S A s.heap H [] := by rw [← hHe]; exact va_S.rf
  rw [hHe] at hP ⊢
  unfold hL_fitAll at hF
  refine lv_iconst (v := (1 : Int32)) hx hb dL_fitAll_0 (by decide) ?_
  refine lv_istore_n (lv' := [(3, .int (1 : Int32)), (0, .ref aT), (1, .ref aA), (2, .int p2)]) hx hb dL_fitAll_1 rfl hl (by decide) rfl (fun ls hl => ?_)
  refine lv_iconst (v := (0 : Int32)) hx hb dL_fitAll_2 (by decide) ?_
  refine lv_istore (lv' := [(4, .int (0 : Int32)), (3, .int (1 : Int32)), (0, .ref aT), (1, .ref aA), (2, .int p2)]) hx hb dL_fitAll_3 hl (by decide) rfl (fun ls hl => ?_)
  exact hb5 K _ _ _ _ _ hF hP hD hS (lv_sub hl [2, 3, 4, 1, 0] rfl)

set_option maxHeartbeats 8000000 in
set_option maxRecDepth 100000 in
theorem oL_drawnOrder (l : Launch) (G : va_G) (tt : Nat → ClassId) (sa : Nat → Nat) (hlt : l.stackTraces = false) (sz : Nat) (K : Nat) (aD : Nat) (vSe : Int64) (RR : Int32 × Int64) (hF : hL_drawnOrder K vSe = some RR) : Met l yL_drawnOrder wsL_drawnOrder ({ frames := 2, cells := 1, slots := 4, locals := 81 } : Room) (zPreQ G (zTy tt) sa [.ref aD] sz (zW [[(aD, .inr (11, [.long vSe]))]])) (va_Qi (fun (r : Int32) (u : Int64) => r = RR.1 ∧ u = RR.2) (zAt G (zTy tt) (va_A (zW [[(aD, .inr (11, [.long vSe]))]]) sz) (fun u : Int64 => zW [[(aD, .inr (11, [.long u]))]])) (va_A (zW [[(aD, .inr (11, [.long vSe]))]]) sz)) 1 4 (va_A (zW [[(aD, .inr (11, [.long vSe]))]]) sz) := by
  refine Met.ofW (cc := cL_drawnOrder) (maxL := 5) (ret := (some .int)) (by decide +kernel) rfl ?_
  intro p e s m args below meth c s₁ B hml hv
  obtain ⟨rfl, hsz, hP, hK, hD0, hN, hX, hO, hAA⟩ := hv
  have hx := B.exec
  have hb := B.bytes
  have hr := B.returns
  have hts := atoms_spec (ws := wsL_drawnOrder) B.pre
  have hown : s.vm.findClass RL = some m.cls := findClass_of_methodNamed B.named
  have hlocks := B.notSynchronized
  subst hsz
  have hD := hD0.self (sz := s.heap.size)
  generalize hAe : va_A (zW [[(aD, .inr (11, [.long vSe]))]]) s.heap.size = A at hD hX ⊢
  have hA : ∀ q : Nat, s.heap.size ≤ q → A q := fun q h => by rw [← hAe]; exact Or.inr h
  have hP : va_P G vwCl (zW [[(aD, .inr (11, [.long vSe]))]]) s.heap := hP
  have hl := lv_entry ([.ref aD]) (n := 5) (Nat.le_of_ble_eq_true rfl)
  rw [lg_entry_eq]
  generalize (lg_sl ([.ref aD]) ++ List.replicate (5 - (lg_sl ([.ref aD])).length) Slot.unset).toArray = ls at hl ⊢
  have hl : lv_has ls 5 [(0, .ref aD)] := hl
  have hb22 : ∀ (k22 : Nat), ∀ (x2 : Int32) (vSe : Int64) (v_n1 : Nat → Int32) (a_n1 : Nat) (H : Heap) (locs : List Loc) (ls : Array Slot), hL_drawnOrder_22 K k22 x2 vSe v_n1 = some RR → va_P G vwCl (zW [[(aD, .inr (11, [.long vSe]))], [(a_n1, .inl (tt 0, 4, .inl v_n1))]]) H → va_D A (zW [[(aD, .inr (11, [.long vSe]))], [(a_n1, .inl (tt 0, 4, .inl v_n1))]]) → va_S A s.heap H locs → lv_has ls 5 [(0, .ref aD), (1, .ref a_n1), (2, .int x2)] → W p l e (headSpec wsL_drawnOrder ({ frames := 2, cells := 1, slots := 4, locals := 81 } : Room)).room s m ([.ref aD] : List Value).toArray below meth c H locs 1 4 (MQ below (va_Qi (fun (r : Int32) (u : Int64) => r = RR.1 ∧ u = RR.2) (zAt G (zTy tt) A (fun u : Int64 => zW [[(aD, .inr (11, [.long u]))]])) A) ([.ref aD] : List Value).toArray s 1 4 A) (F0 m 22 ls []) := by
    intro k22
    induction k22 with
    | zero => intro x2 vSe v_n1 a_n1 H locs ls hF; rw [hL_drawnOrder_22] at hF; cases hF
    | succ k22 ih22 =>
      intro x2 vSe v_n1 a_n1 H locs ls hF hP hD hS hl
      rw [hL_drawnOrder_22] at hF
      refine lv_iload_n hx hb dL_drawnOrder_22 rfl (lv_at hl 2 rfl) ?_
      refine lv_if_le (tgt := 56) hx hb dL_drawnOrder_23 (by decide) (fun c_23 => ?_) (fun c_23 => ?_)
      · have hF := z_t c_23 hF
        refine lv_sipush (v := (1000 : Int32)) hx hb dL_drawnOrder_56 (by decide) ?_
        refine lv_aload_n hx hb dL_drawnOrder_59 rfl (lv_at hl 1 rfl) ?_
        refine lv_iconst (v := (0 : Int32)) hx hb dL_drawnOrder_60 (by decide) ?_
        obtain ⟨h_61, hF⟩ := z_in hF
        obtain ⟨k_61, hk_61, hs_61⟩ := zS_one hP 1 rfl
        refine va_iald hx hb hK hP k_61 0 hk_61 rfl h_61 dL_drawnOrder_61 ?_
        refine lv_imul hx hb dL_drawnOrder_62 ?_
        refine lv_bipush (v := (100 : Int32)) hx hb dL_drawnOrder_63 (by decide) ?_
        refine lv_aload_n hx hb dL_drawnOrder_65 rfl (lv_at hl 1 rfl) ?_
        refine lv_iconst (v := (1 : Int32)) hx hb dL_drawnOrder_66 (by decide) ?_
        obtain ⟨h_67, hF⟩ := z_in hF
        obtain ⟨k_67, hk_67, hs_67⟩ := zS_one hP 1 rfl
        refine va_iald hx hb hK hP k_67 0 hk_67 rfl h_67 dL_drawnOrder_67 ?_
        refine lv_imul hx hb dL_drawnOrder_68 ?_
        refine lv_iadd hx hb dL_drawnOrder_69 ?_
        refine lv_bipush (v := (10 : Int32)) hx hb dL_drawnOrder_70 (by decide) ?_
        refine lv_aload_n hx hb dL_drawnOrder_72 rfl (lv_at hl 1 rfl) ?_
        refine lv_iconst (v := (2 : Int32)) hx hb dL_drawnOrder_73 (by decide) ?_
        obtain ⟨h_74, hF⟩ := z_in hF
        obtain ⟨k_74, hk_74, hs_74⟩ := zS_one hP 1 rfl
        refine va_iald hx hb hK hP k_74 0 hk_74 rfl h_74 dL_drawnOrder_74 ?_
        refine lv_imul hx hb dL_drawnOrder_75 ?_
        refine lv_iadd hx hb dL_drawnOrder_76 ?_
        refine lv_aload_n hx hb dL_drawnOrder_77 rfl (lv_at hl 1 rfl) ?_
        refine lv_iconst (v := (3 : Int32)) hx hb dL_drawnOrder_78 (by decide) ?_
        obtain ⟨h_79, hF⟩ := z_in hF
        obtain ⟨k_79, hk_79, hs_79⟩ := zS_one hP 1 rfl
        refine va_iald hx hb hK hP k_79 0 hk_79 rfl h_79 dL_drawnOrder_79 ?_
        refine lv_iadd hx hb dL_drawnOrder_80 ?_
        have hp9 : (zW [[(aD, .inr (11, [.long vSe]))], [(a_n1, .inl (tt 0, 4, .inl v_n1))]]).Perm (zW [[(aD, .inr (11, [.long vSe]))]] ++ zW [[(a_n1, .inl (tt 0, 4, .inl v_n1))]]) := zS_cut (is := [0]) (js := [1]) 2 rfl rfl rfl (by decide)
        have hP9 : va_P G vwCl (zW [[(aD, .inr (11, [.long vSe]))]]) H := zS_subP hp9 hP
        have hD9 : va_D A (zW [[(aD, .inr (11, [.long vSe]))]]) := zS_subD hp9 hD
        have hR := Option.some.inj hF
        refine z_widen (k := 1) (n := 4) (Nat.le_of_ble_eq_true rfl) (Nat.le_of_ble_eq_true rfl) ?_
        exact W.iret (v := (((((1000 : Int32) * (v_n1 (0 : Int32).toNatClampNeg)) + ((100 : Int32) * (v_n1 (1 : Int32).toNatClampNeg))) + ((10 : Int32) * (v_n1 (2 : Int32).toNatClampNeg))) + (v_n1 (3 : Int32).toNatClampNeg))) hx hb hr (fun t ht hW => ⟨⟨(((((1000 : Int32) * (v_n1 (0 : Int32).toNatClampNeg)) + ((100 : Int32) * (v_n1 (1 : Int32).toNatClampNeg))) + ((10 : Int32) * (v_n1 (2 : Int32).toNatClampNeg))) + (v_n1 (3 : Int32).toNatClampNeg)), (vSe), rfl, (by subst hR; exact ⟨rfl, rfl⟩), by rw [ht]; exact hP9, va_K.moved hW.alike hK, hD9⟩, hS.F ht⟩) hS.2.2 dL_drawnOrder_81
      · have hF := z_f c_23 hF
        refine lv_aload_n hx hb dL_drawnOrder_26 rfl (lv_at hl 0 rfl) ?_
        refine lv_iload_n hx hb dL_drawnOrder_27 rfl (lv_at hl 2 rfl) ?_
        refine lv_iconst (v := (1 : Int32)) hx hb dL_drawnOrder_28 (by decide) ?_
        refine lv_iadd hx hb dL_drawnOrder_29 ?_
        obtain ⟨q30, hc_30, hF⟩ := z_bind hF
        have hp_30 : (zW [[(aD, .inr (11, [.long vSe]))], [(a_n1, .inl (tt 0, 4, .inl v_n1))]]).Perm (zW [[(aD, .inr (11, [.long vSe]))]] ++ zW [[(a_n1, .inl (tt 0, 4, .inl v_n1))]]) := zS_cut (is := [0]) (js := [1]) 2 rfl rfl rfl (by decide)
        refine s_backi (s_goV (As := [.int (x2 + (1 : Int32))]) (rest := []) (ci := 11) ⟨hx, hb, hml, hown, hts⟩ hK hN hX hO hAA hp_30 hP hD hS hA (oX12_next l G tt sa hlt H.size K aD vSe (x2 + (1 : Int32)) q30 hc_30) (cwV 1 hts gL_drawnOrder_X12_next rfl rfl rfl (by decide +kernel) ⟨Nat.le_of_ble_eq_true rfl, Nat.le_of_ble_eq_true rfl⟩) rfl rfl rfl hl.1 rfl (Nat.le_of_ble_eq_true rfl) dL_drawnOrder_30 ⟨Nat.le_of_ble_eq_true rfl, Nat.le_of_ble_eq_true rfl⟩) hp_30 hP hD hS hA (fun r_30 u H locs hw hP hD hS => ?_)
        obtain ⟨rfl, rfl⟩ := hw
        have hP : va_P G vwCl (zW [[(a_n1, .inl (tt 0, 4, .inl v_n1))], [(aD, .inr (11, [.long q30.2]))]]) H := hP
        have hD : va_D A (zW [[(a_n1, .inl (tt 0, 4, .inl v_n1))], [(aD, .inr (11, [.long q30.2]))]]) := hD
        refine lv_istore_n (lv' := [(3, .int q30.1), (0, .ref aD), (1, .ref a_n1), (2, .int x2)]) hx hb dL_drawnOrder_33 rfl hl (by decide) rfl (fun ls hl => ?_)
        refine lv_aload_n hx hb dL_drawnOrder_34 rfl (lv_at hl 2 rfl) ?_
        refine lv_iload_n hx hb dL_drawnOrder_35 rfl (lv_at hl 3 rfl) ?_
        obtain ⟨h_36, hF⟩ := z_in hF
        obtain ⟨k_36, hk_36, hs_36⟩ := zS_one hP 0 rfl
        refine va_iald hx hb hK hP k_36 0 hk_36 rfl h_36 dL_drawnOrder_36 ?_
        refine lv_istore (lv' := [(4, .int (v_n1 x2.toNatClampNeg)), (3, .int q30.1), (0, .ref aD), (1, .ref a_n1), (2, .int x2)]) hx hb dL_drawnOrder_37 hl (by decide) rfl (fun ls hl => ?_)
        refine lv_aload_n hx hb dL_drawnOrder_39 rfl (lv_at hl 3 rfl) ?_
        refine lv_iload_n hx hb dL_drawnOrder_40 rfl (lv_at hl 4 rfl) ?_
        refine lv_aload_n hx hb dL_drawnOrder_41 rfl (lv_at hl 3 rfl) ?_
        refine lv_iload_n hx hb dL_drawnOrder_42 rfl (lv_at hl 1 rfl) ?_
        obtain ⟨h_43, hF⟩ := z_in hF
        obtain ⟨k_43, hk_43, hs_43⟩ := zS_one hP 0 rfl
        refine va_iald hx hb hK hP k_43 0 hk_43 rfl h_43 dL_drawnOrder_43 ?_
        obtain ⟨h_44, hF⟩ := z_in hF
        obtain ⟨k_44, hk_44, hs_44⟩ := zS_one hP 0 rfl
        refine va_iast hx hb hK hP hD hS k_44 0 hk_44 rfl h_44 dL_drawnOrder_44 (fun H locs hP hD hS => ?_)
        rw [hs_44] at hP hD
        have hP : va_P G vwCl (zW [[(a_n1, .inl (tt 0, 4, .inl (upd v_n1 x2.toNatClampNeg (v_n1 q30.1.toNatClampNeg))))], [(aD, .inr (11, [.long q30.2]))]]) H := hP
        have hD : va_D A (zW [[(a_n1, .inl (tt 0, 4, .inl (upd v_n1 x2.toNatClampNeg (v_n1 q30.1.toNatClampNeg))))], [(aD, .inr (11, [.long q30.2]))]]) := hD
        refine lv_aload_n hx hb dL_drawnOrder_45 rfl (lv_at hl 3 rfl) ?_
        refine lv_iload_n hx hb dL_drawnOrder_46 rfl (lv_at hl 1 rfl) ?_
        refine lv_iload hx hb dL_drawnOrder_47 (lv_at hl 0 rfl) ?_
        obtain ⟨h_49, hF⟩ := z_in hF
        obtain ⟨k_49, hk_49, hs_49⟩ := zS_one hP 0 rfl
        refine va_iast hx hb hK hP hD hS k_49 0 hk_49 rfl h_49 dL_drawnOrder_49 (fun H locs hP hD hS => ?_)
        rw [hs_49] at hP hD
        have hP : va_P G vwCl (zW [[(a_n1, .inl (tt 0, 4, .inl (upd (upd v_n1 x2.toNatClampNeg (v_n1 q30.1.toNatClampNeg)) q30.1.toNatClampNeg (v_n1 x2.toNatClampNeg))))], [(aD, .inr (11, [.long q30.2]))]]) H := hP
        have hD : va_D A (zW [[(a_n1, .inl (tt 0, 4, .inl (upd (upd v_n1 x2.toNatClampNeg (v_n1 q30.1.toNatClampNeg)) q30.1.toNatClampNeg (v_n1 x2.toNatClampNeg))))], [(aD, .inr (11, [.long q30.2]))]]) := hD
        refine lv_iinc (v := (x2 + (-1 : Int32))) (lv' := [(2, .int (x2 + (-1 : Int32))), (4, .int (v_n1 x2.toNatClampNeg)), (3, .int q30.1), (0, .ref aD), (1, .ref a_n1)]) hx hb dL_drawnOrder_50 hl (k := 4) rfl rfl (by decide) rfl (fun ls hl => ?_)
        refine lv_goto (tgt := 22) hx hb dL_drawnOrder_53 (by decide) ?_
        have hpj : (zW [[(a_n1, .inl (tt 0, 4, .inl (upd (upd v_n1 x2.toNatClampNeg (v_n1 q30.1.toNatClampNeg)) q30.1.toNatClampNeg (v_n1 x2.toNatClampNeg))))], [(aD, .inr (11, [.long q30.2]))]]).Perm (zW [[(aD, .inr (11, [.long q30.2]))], [(a_n1, .inl (tt 0, 4, .inl (upd (upd v_n1 x2.toNatClampNeg (v_n1 q30.1.toNatClampNeg)) q30.1.toNatClampNeg (v_n1 x2.toNatClampNeg))))]] ++ zW []) := zS_cut (is := [1, 0]) (js := []) 2 rfl rfl rfl (by decide)
        exact ih22 _ _ _ _ _ _ _ hF (zS_subP hpj hP) (zS_subD hpj hD) hS (lv_sub hl [3, 4, 0] rfl)
  obtain ⟨H, hHe⟩ : ∃ H : Heap, s.heap = H := ⟨_, rfl⟩
  have hS : va_S A s.heap H [] := by rw [← hHe]; exact va_S.rf
  rw [hHe] at hP ⊢
  unfold hL_drawnOrder at hF
  refine lv_iconst (v := (4 : Int32)) hx hb dL_drawnOrder_0 (by decide) ?_
  refine z_newa (atype := .int) (ty := .int) (N' := 4) (a0 := (4, .inl (fun _ => (0 : Int32)))) hx hb (hts (.arrayClass .int) (List.mem_of_getElem? (i := 1) rfl)) rfl hK hP hD hS hA 0 rfl (fun _ => rfl) (by decide) (by decide +kernel) (Nat.le_of_ble_eq_true rfl) (Nat.le_of_ble_eq_true rfl) (Nat.le_of_ble_eq_true rfl) dL_drawnOrder_1 (fun a_n1 H hP hD hS => ?_)
  rw [← zW_1 [(a_n1, _)], ← zW_app] at hP hD
  have hP : va_P G vwCl (zW [[(aD, .inr (11, [.long vSe]))], [(a_n1, .inl (tt 0, 4, .inl (fun _ => (0 : Int32))))]]) H := hP
  have hD : va_D A (zW [[(aD, .inr (11, [.long vSe]))], [(a_n1, .inl (tt 0, 4, .inl (fun _ => (0 : Int32))))]]) := hD
  refine lv_dup hx hb dL_drawnOrder_3 rfl ?_
  refine lv_iconst (v := (0 : Int32)) hx hb dL_drawnOrder_4 (by decide) ?_
  refine lv_iconst (v := (0 : Int32)) hx hb dL_drawnOrder_5 (by decide) ?_
  obtain ⟨h_6, hF⟩ := z_in hF
  obtain ⟨k_6, hk_6, hs_6⟩ := zS_one hP 1 rfl
  refine va_iast hx hb hK hP hD hS k_6 0 hk_6 rfl h_6 dL_drawnOrder_6 (fun H locs hP hD hS => ?_)
  rw [hs_6] at hP hD
  have hP : va_P G vwCl (zW [[(aD, .inr (11, [.long vSe]))], [(a_n1, .inl (tt 0, 4, .inl (upd (fun _ => (0 : Int32)) (0 : Int32).toNatClampNeg (0 : Int32))))]]) H := hP
  have hD : va_D A (zW [[(aD, .inr (11, [.long vSe]))], [(a_n1, .inl (tt 0, 4, .inl (upd (fun _ => (0 : Int32)) (0 : Int32).toNatClampNeg (0 : Int32))))]]) := hD
  refine lv_dup hx hb dL_drawnOrder_7 rfl ?_
  refine lv_iconst (v := (1 : Int32)) hx hb dL_drawnOrder_8 (by decide) ?_
  refine lv_iconst (v := (1 : Int32)) hx hb dL_drawnOrder_9 (by decide) ?_
  obtain ⟨h_10, hF⟩ := z_in hF
  obtain ⟨k_10, hk_10, hs_10⟩ := zS_one hP 1 rfl
  refine va_iast hx hb hK hP hD hS k_10 0 hk_10 rfl h_10 dL_drawnOrder_10 (fun H locs hP hD hS => ?_)
  rw [hs_10] at hP hD
  have hP : va_P G vwCl (zW [[(aD, .inr (11, [.long vSe]))], [(a_n1, .inl (tt 0, 4, .inl (upd (upd (fun _ => (0 : Int32)) (0 : Int32).toNatClampNeg (0 : Int32)) (1 : Int32).toNatClampNeg (1 : Int32))))]]) H := hP
  have hD : va_D A (zW [[(aD, .inr (11, [.long vSe]))], [(a_n1, .inl (tt 0, 4, .inl (upd (upd (fun _ => (0 : Int32)) (0 : Int32).toNatClampNeg (0 : Int32)) (1 : Int32).toNatClampNeg (1 : Int32))))]]) := hD
  refine lv_dup hx hb dL_drawnOrder_11 rfl ?_
  refine lv_iconst (v := (2 : Int32)) hx hb dL_drawnOrder_12 (by decide) ?_
  refine lv_iconst (v := (2 : Int32)) hx hb dL_drawnOrder_13 (by decide) ?_
  obtain ⟨h_14, hF⟩ := z_in hF
  obtain ⟨k_14, hk_14, hs_14⟩ := zS_one hP 1 rfl
  refine va_iast hx hb hK hP hD hS k_14 0 hk_14 rfl h_14 dL_drawnOrder_14 (fun H locs hP hD hS => ?_)
  rw [hs_14] at hP hD
  have hP : va_P G vwCl (zW [[(aD, .inr (11, [.long vSe]))], [(a_n1, .inl (tt 0, 4, .inl (upd (upd (upd (fun _ => (0 : Int32)) (0 : Int32).toNatClampNeg (0 : Int32)) (1 : Int32).toNatClampNeg (1 : Int32)) (2 : Int32).toNatClampNeg (2 : Int32))))]]) H := hP
  have hD : va_D A (zW [[(aD, .inr (11, [.long vSe]))], [(a_n1, .inl (tt 0, 4, .inl (upd (upd (upd (fun _ => (0 : Int32)) (0 : Int32).toNatClampNeg (0 : Int32)) (1 : Int32).toNatClampNeg (1 : Int32)) (2 : Int32).toNatClampNeg (2 : Int32))))]]) := hD
  refine lv_dup hx hb dL_drawnOrder_15 rfl ?_
  refine lv_iconst (v := (3 : Int32)) hx hb dL_drawnOrder_16 (by decide) ?_
  refine lv_iconst (v := (3 : Int32)) hx hb dL_drawnOrder_17 (by decide) ?_
  obtain ⟨h_18, hF⟩ := z_in hF
  obtain ⟨k_18, hk_18, hs_18⟩ := zS_one hP 1 rfl
  refine va_iast hx hb hK hP hD hS k_18 0 hk_18 rfl h_18 dL_drawnOrder_18 (fun H locs hP hD hS => ?_)
  rw [hs_18] at hP hD
  have hP : va_P G vwCl (zW [[(aD, .inr (11, [.long vSe]))], [(a_n1, .inl (tt 0, 4, .inl (upd (upd (upd (upd (fun _ => (0 : Int32)) (0 : Int32).toNatClampNeg (0 : Int32)) (1 : Int32).toNatClampNeg (1 : Int32)) (2 : Int32).toNatClampNeg (2 : Int32)) (3 : Int32).toNatClampNeg (3 : Int32))))]]) H := hP
  have hD : va_D A (zW [[(aD, .inr (11, [.long vSe]))], [(a_n1, .inl (tt 0, 4, .inl (upd (upd (upd (upd (fun _ => (0 : Int32)) (0 : Int32).toNatClampNeg (0 : Int32)) (1 : Int32).toNatClampNeg (1 : Int32)) (2 : Int32).toNatClampNeg (2 : Int32)) (3 : Int32).toNatClampNeg (3 : Int32))))]]) := hD
  refine lv_astore_n (lv' := [(1, .ref a_n1), (0, .ref aD)]) hx hb dL_drawnOrder_19 rfl hl (by decide) rfl (fun ls hl => ?_)
  refine lv_iconst (v := (3 : Int32)) hx hb dL_drawnOrder_20 (by decide) ?_
  refine lv_istore_n (lv' := [(2, .int (3 : Int32)), (1, .ref a_n1), (0, .ref aD)]) hx hb dL_drawnOrder_21 rfl hl (by decide) rfl (fun ls hl => ?_)
  exact hb22 K _ _ _ _ _ _ _ hF hP hD hS (lv_sub hl [2, 1, 0] rfl)

set_option maxHeartbeats 8000000 in
set_option maxRecDepth 100000 in
theorem oL_firstRules (l : Launch) (G : va_G) (tt : Nat → ClassId) (sa : Nat → Nat) (hlt : l.stackTraces = false) (sz : Nat) (K : Nat) (aT : Nat) (aCol : Nat) (aFa : Nat) (aRu : Nat) (aRo : Nat) (aLa : Nat) (aVa : Nat) (eRu : Nat → Nat) (vTa : Int32) (vRc : Int32) (vRu : Nat → Nat → Int32) (RR : Int32 × (Nat → Nat → Int32)) (hF : hL_firstRules K vRc vRu = some RR) : Met l yL_firstRules wsL_firstRules ({ frames := 1, cells := 2, slots := 25, locals := 60 } : Room) (zPreQ G (zTy tt) sa [.ref aT] sz (zW [[(aT, .inr (12, [.ref aCol, .int vTa, .ref aFa, .ref aRu, .int vRc, .ref aRo, .ref aLa, .ref aVa]))], [(aRu, .inl (tt 5, 5, .inr (.inr (.inr (.inr (fun j => some (eRu j)))))))], (wA eRu (tt 0) 5 25 vRu)])) (va_Qv (fun u : Int32 × (Nat → Nat → Int32) => u = RR) (zAt G (zTy tt) (va_A (zW [[(aT, .inr (12, [.ref aCol, .int vTa, .ref aFa, .ref aRu, .int vRc, .ref aRo, .ref aLa, .ref aVa]))], [(aRu, .inl (tt 5, 5, .inr (.inr (.inr (.inr (fun j => some (eRu j)))))))], (wA eRu (tt 0) 5 25 vRu)]) sz) (fun u : Int32 × (Nat → Nat → Int32) => zW [[(aT, .inr (12, [.ref aCol, .int vTa, .ref aFa, .ref aRu, .int u.1, .ref aRo, .ref aLa, .ref aVa]))], [(aRu, .inl (tt 5, 5, .inr (.inr (.inr (.inr (fun j => some (eRu j)))))))], (wA eRu (tt 0) 5 25 u.2)])) (va_A (zW [[(aT, .inr (12, [.ref aCol, .int vTa, .ref aFa, .ref aRu, .int vRc, .ref aRo, .ref aLa, .ref aVa]))], [(aRu, .inl (tt 5, 5, .inr (.inr (.inr (.inr (fun j => some (eRu j)))))))], (wA eRu (tt 0) 5 25 vRu)]) sz)) 2 25 (va_A (zW [[(aT, .inr (12, [.ref aCol, .int vTa, .ref aFa, .ref aRu, .int vRc, .ref aRo, .ref aLa, .ref aVa]))], [(aRu, .inl (tt 5, 5, .inr (.inr (.inr (.inr (fun j => some (eRu j)))))))], (wA eRu (tt 0) 5 25 vRu)]) sz) := by
  refine Met.ofW (cc := cL_firstRules) (maxL := 3) (ret := none) (by decide +kernel) rfl ?_
  intro p e s m args below meth c s₁ B hml hv
  obtain ⟨rfl, hsz, hP, hK, hD0, hN, hX, hO, hAA⟩ := hv
  have hx := B.exec
  have hb := B.bytes
  have hr := B.returns
  have hts := atoms_spec (ws := wsL_firstRules) B.pre
  have hown : s.vm.findClass RL = some m.cls := findClass_of_methodNamed B.named
  have hlocks := B.notSynchronized
  subst hsz
  have hD := hD0.self (sz := s.heap.size)
  generalize hAe : va_A (zW [[(aT, .inr (12, [.ref aCol, .int vTa, .ref aFa, .ref aRu, .int vRc, .ref aRo, .ref aLa, .ref aVa]))], [(aRu, .inl (tt 5, 5, .inr (.inr (.inr (.inr (fun j => some (eRu j)))))))], (wA eRu (tt 0) 5 25 vRu)]) s.heap.size = A at hD hX ⊢
  have hA : ∀ q : Nat, s.heap.size ≤ q → A q := fun q h => by rw [← hAe]; exact Or.inr h
  have hP : va_P G vwCl (zW [[(aT, .inr (12, [.ref aCol, .int vTa, .ref aFa, .ref aRu, .int vRc, .ref aRo, .ref aLa, .ref aVa]))], [(aRu, .inl (tt 5, 5, .inr (.inr (.inr (.inr (fun j => some (eRu j)))))))], (wA eRu (tt 0) 5 25 vRu)]) s.heap := hP
  have hiX13 : ∀ w ∈ wsX130, w ∈ wsL_firstRules := by decide +kernel
  have hl := lv_entry ([.ref aT]) (n := 3) (Nat.le_of_ble_eq_true rfl)
  rw [lg_entry_eq]
  generalize (lg_sl ([.ref aT]) ++ List.replicate (3 - (lg_sl ([.ref aT])).length) Slot.unset).toArray = ls at hl ⊢
  have hl : lv_has ls 3 [(0, .ref aT)] := hl
  obtain ⟨H, hHe⟩ : ∃ H : Heap, s.heap = H := ⟨_, rfl⟩
  have hS : va_S A s.heap H [] := by rw [← hHe]; exact va_S.rf
  rw [hHe] at hP ⊢
  unfold hL_firstRules at hF
  refine lv_aload_n hx hb dL_firstRules_0 rfl (lv_at hl 0 rfl) ?_
  refine lv_iconst (v := (2 : Int32)) hx hb dL_firstRules_1 (by decide) ?_
  obtain ⟨k_2, hk_2, hs_2⟩ := zS_one hP 0 rfl
  refine va_put (D := G) (ci := 12) (v := .int (2 : Int32)) (ty := .int) (C := RX13) (T := TX13) (N := 8) hx hb hts hiX13 tyX13 tyX13_ok nmX13 hown hK hP hD hS k_2 hk_2 rfl 4 (by decide) (hts (.fieldLink RL 68 "LeapTablesLaw$Told" "ruleCount" "I") (List.mem_of_getElem? (i := 1) rfl)) (fun _ h9 => h9) rfl (by decide +kernel) rfl rfl (Nat.le_of_ble_eq_true rfl) dL_firstRules_2 (fun H locs hP hD hS => ?_)
  rw [hs_2] at hP hD
  have hP : va_P G vwCl (zW [[(aT, .inr (12, [.ref aCol, .int vTa, .ref aFa, .ref aRu, .int (2 : Int32), .ref aRo, .ref aLa, .ref aVa]))], [(aRu, .inl (tt 5, 5, .inr (.inr (.inr (.inr (fun j => some (eRu j)))))))], (wA eRu (tt 0) 5 25 vRu)]) H := hP
  have hD : va_D A (zW [[(aT, .inr (12, [.ref aCol, .int vTa, .ref aFa, .ref aRu, .int (2 : Int32), .ref aRo, .ref aLa, .ref aVa]))], [(aRu, .inl (tt 5, 5, .inr (.inr (.inr (.inr (fun j => some (eRu j)))))))], (wA eRu (tt 0) 5 25 vRu)]) := hD
  refine lv_bipush (v := (10 : Int32)) hx hb dL_firstRules_5 (by decide) ?_
  refine z_newa (atype := .int) (ty := .int) (N' := 10) (a0 := (10, .inl (fun _ => (0 : Int32)))) hx hb (hts (.arrayClass .int) (List.mem_of_getElem? (i := 2) rfl)) rfl hK hP hD hS hA 0 rfl (fun _ => rfl) (by decide) (by decide +kernel) (Nat.le_of_ble_eq_true rfl) (Nat.le_of_ble_eq_true rfl) (Nat.le_of_ble_eq_true rfl) dL_firstRules_7 (fun a_n7 H hP hD hS => ?_)
  rw [← zW_1 [(a_n7, _)], ← zW_app] at hP hD
  have hP : va_P G vwCl (zW [[(aT, .inr (12, [.ref aCol, .int vTa, .ref aFa, .ref aRu, .int (2 : Int32), .ref aRo, .ref aLa, .ref aVa]))], [(aRu, .inl (tt 5, 5, .inr (.inr (.inr (.inr (fun j => some (eRu j)))))))], (wA eRu (tt 0) 5 25 vRu), [(a_n7, .inl (tt 0, 10, .inl (fun _ => (0 : Int32))))]]) H := hP
  have hD : va_D A (zW [[(aT, .inr (12, [.ref aCol, .int vTa, .ref aFa, .ref aRu, .int (2 : Int32), .ref aRo, .ref aLa, .ref aVa]))], [(aRu, .inl (tt 5, 5, .inr (.inr (.inr (.inr (fun j => some (eRu j)))))))], (wA eRu (tt 0) 5 25 vRu), [(a_n7, .inl (tt 0, 10, .inl (fun _ => (0 : Int32))))]]) := hD
  refine lv_dup hx hb dL_firstRules_9 rfl ?_
  refine lv_iconst (v := (0 : Int32)) hx hb dL_firstRules_10 (by decide) ?_
  refine lv_iconst (v := (1 : Int32)) hx hb dL_firstRules_11 (by decide) ?_
  obtain ⟨h_12, hF⟩ := z_in hF
  obtain ⟨k_12, hk_12, hs_12⟩ := zS_one hP 3 rfl
  refine va_iast hx hb hK hP hD hS k_12 0 hk_12 rfl h_12 dL_firstRules_12 (fun H locs hP hD hS => ?_)
  rw [hs_12] at hP hD
  have hP : va_P G vwCl (zW [[(aT, .inr (12, [.ref aCol, .int vTa, .ref aFa, .ref aRu, .int (2 : Int32), .ref aRo, .ref aLa, .ref aVa]))], [(aRu, .inl (tt 5, 5, .inr (.inr (.inr (.inr (fun j => some (eRu j)))))))], (wA eRu (tt 0) 5 25 vRu), [(a_n7, .inl (tt 0, 10, .inl (upd (fun _ => (0 : Int32)) (0 : Int32).toNatClampNeg (1 : Int32))))]]) H := hP
  have hD : va_D A (zW [[(aT, .inr (12, [.ref aCol, .int vTa, .ref aFa, .ref aRu, .int (2 : Int32), .ref aRo, .ref aLa, .ref aVa]))], [(aRu, .inl (tt 5, 5, .inr (.inr (.inr (.inr (fun j => some (eRu j)))))))], (wA eRu (tt 0) 5 25 vRu), [(a_n7, .inl (tt 0, 10, .inl (upd (fun _ => (0 : Int32)) (0 : Int32).toNatClampNeg (1 : Int32))))]]) := hD
  refine lv_dup hx hb dL_firstRules_13 rfl ?_
  refine lv_iconst (v := (1 : Int32)) hx hb dL_firstRules_14 (by decide) ?_
  refine lv_iconst (v := (0 : Int32)) hx hb dL_firstRules_15 (by decide) ?_
  obtain ⟨h_16, hF⟩ := z_in hF
  obtain ⟨k_16, hk_16, hs_16⟩ := zS_one hP 3 rfl
  refine va_iast hx hb hK hP hD hS k_16 0 hk_16 rfl h_16 dL_firstRules_16 (fun H locs hP hD hS => ?_)
  rw [hs_16] at hP hD
  have hP : va_P G vwCl (zW [[(aT, .inr (12, [.ref aCol, .int vTa, .ref aFa, .ref aRu, .int (2 : Int32), .ref aRo, .ref aLa, .ref aVa]))], [(aRu, .inl (tt 5, 5, .inr (.inr (.inr (.inr (fun j => some (eRu j)))))))], (wA eRu (tt 0) 5 25 vRu), [(a_n7, .inl (tt 0, 10, .inl (upd (upd (fun _ => (0 : Int32)) (0 : Int32).toNatClampNeg (1 : Int32)) (1 : Int32).toNatClampNeg (0 : Int32))))]]) H := hP
  have hD : va_D A (zW [[(aT, .inr (12, [.ref aCol, .int vTa, .ref aFa, .ref aRu, .int (2 : Int32), .ref aRo, .ref aLa, .ref aVa]))], [(aRu, .inl (tt 5, 5, .inr (.inr (.inr (.inr (fun j => some (eRu j)))))))], (wA eRu (tt 0) 5 25 vRu), [(a_n7, .inl (tt 0, 10, .inl (upd (upd (fun _ => (0 : Int32)) (0 : Int32).toNatClampNeg (1 : Int32)) (1 : Int32).toNatClampNeg (0 : Int32))))]]) := hD
  refine lv_dup hx hb dL_firstRules_17 rfl ?_
  refine lv_iconst (v := (2 : Int32)) hx hb dL_firstRules_18 (by decide) ?_
  refine lv_iconst (v := (1 : Int32)) hx hb dL_firstRules_19 (by decide) ?_
  obtain ⟨h_20, hF⟩ := z_in hF
  obtain ⟨k_20, hk_20, hs_20⟩ := zS_one hP 3 rfl
  refine va_iast hx hb hK hP hD hS k_20 0 hk_20 rfl h_20 dL_firstRules_20 (fun H locs hP hD hS => ?_)
  rw [hs_20] at hP hD
  have hP : va_P G vwCl (zW [[(aT, .inr (12, [.ref aCol, .int vTa, .ref aFa, .ref aRu, .int (2 : Int32), .ref aRo, .ref aLa, .ref aVa]))], [(aRu, .inl (tt 5, 5, .inr (.inr (.inr (.inr (fun j => some (eRu j)))))))], (wA eRu (tt 0) 5 25 vRu), [(a_n7, .inl (tt 0, 10, .inl (upd (upd (upd (fun _ => (0 : Int32)) (0 : Int32).toNatClampNeg (1 : Int32)) (1 : Int32).toNatClampNeg (0 : Int32)) (2 : Int32).toNatClampNeg (1 : Int32))))]]) H := hP
  have hD : va_D A (zW [[(aT, .inr (12, [.ref aCol, .int vTa, .ref aFa, .ref aRu, .int (2 : Int32), .ref aRo, .ref aLa, .ref aVa]))], [(aRu, .inl (tt 5, 5, .inr (.inr (.inr (.inr (fun j => some (eRu j)))))))], (wA eRu (tt 0) 5 25 vRu), [(a_n7, .inl (tt 0, 10, .inl (upd (upd (upd (fun _ => (0 : Int32)) (0 : Int32).toNatClampNeg (1 : Int32)) (1 : Int32).toNatClampNeg (0 : Int32)) (2 : Int32).toNatClampNeg (1 : Int32))))]]) := hD
  refine lv_dup hx hb dL_firstRules_21 rfl ?_
  refine lv_iconst (v := (3 : Int32)) hx hb dL_firstRules_22 (by decide) ?_
  refine lv_iconst (v := (0 : Int32)) hx hb dL_firstRules_23 (by decide) ?_
  obtain ⟨h_24, hF⟩ := z_in hF
  obtain ⟨k_24, hk_24, hs_24⟩ := zS_one hP 3 rfl
  refine va_iast hx hb hK hP hD hS k_24 0 hk_24 rfl h_24 dL_firstRules_24 (fun H locs hP hD hS => ?_)
  rw [hs_24] at hP hD
  have hP : va_P G vwCl (zW [[(aT, .inr (12, [.ref aCol, .int vTa, .ref aFa, .ref aRu, .int (2 : Int32), .ref aRo, .ref aLa, .ref aVa]))], [(aRu, .inl (tt 5, 5, .inr (.inr (.inr (.inr (fun j => some (eRu j)))))))], (wA eRu (tt 0) 5 25 vRu), [(a_n7, .inl (tt 0, 10, .inl (upd (upd (upd (upd (fun _ => (0 : Int32)) (0 : Int32).toNatClampNeg (1 : Int32)) (1 : Int32).toNatClampNeg (0 : Int32)) (2 : Int32).toNatClampNeg (1 : Int32)) (3 : Int32).toNatClampNeg (0 : Int32))))]]) H := hP
  have hD : va_D A (zW [[(aT, .inr (12, [.ref aCol, .int vTa, .ref aFa, .ref aRu, .int (2 : Int32), .ref aRo, .ref aLa, .ref aVa]))], [(aRu, .inl (tt 5, 5, .inr (.inr (.inr (.inr (fun j => some (eRu j)))))))], (wA eRu (tt 0) 5 25 vRu), [(a_n7, .inl (tt 0, 10, .inl (upd (upd (upd (upd (fun _ => (0 : Int32)) (0 : Int32).toNatClampNeg (1 : Int32)) (1 : Int32).toNatClampNeg (0 : Int32)) (2 : Int32).toNatClampNeg (1 : Int32)) (3 : Int32).toNatClampNeg (0 : Int32))))]]) := hD
  refine lv_dup hx hb dL_firstRules_25 rfl ?_
  refine lv_iconst (v := (4 : Int32)) hx hb dL_firstRules_26 (by decide) ?_
  refine lv_iconst (v := (1 : Int32)) hx hb dL_firstRules_27 (by decide) ?_
  obtain ⟨h_28, hF⟩ := z_in hF
  obtain ⟨k_28, hk_28, hs_28⟩ := zS_one hP 3 rfl
  refine va_iast hx hb hK hP hD hS k_28 0 hk_28 rfl h_28 dL_firstRules_28 (fun H locs hP hD hS => ?_)
  rw [hs_28] at hP hD
  have hP : va_P G vwCl (zW [[(aT, .inr (12, [.ref aCol, .int vTa, .ref aFa, .ref aRu, .int (2 : Int32), .ref aRo, .ref aLa, .ref aVa]))], [(aRu, .inl (tt 5, 5, .inr (.inr (.inr (.inr (fun j => some (eRu j)))))))], (wA eRu (tt 0) 5 25 vRu), [(a_n7, .inl (tt 0, 10, .inl (upd (upd (upd (upd (upd (fun _ => (0 : Int32)) (0 : Int32).toNatClampNeg (1 : Int32)) (1 : Int32).toNatClampNeg (0 : Int32)) (2 : Int32).toNatClampNeg (1 : Int32)) (3 : Int32).toNatClampNeg (0 : Int32)) (4 : Int32).toNatClampNeg (1 : Int32))))]]) H := hP
  have hD : va_D A (zW [[(aT, .inr (12, [.ref aCol, .int vTa, .ref aFa, .ref aRu, .int (2 : Int32), .ref aRo, .ref aLa, .ref aVa]))], [(aRu, .inl (tt 5, 5, .inr (.inr (.inr (.inr (fun j => some (eRu j)))))))], (wA eRu (tt 0) 5 25 vRu), [(a_n7, .inl (tt 0, 10, .inl (upd (upd (upd (upd (upd (fun _ => (0 : Int32)) (0 : Int32).toNatClampNeg (1 : Int32)) (1 : Int32).toNatClampNeg (0 : Int32)) (2 : Int32).toNatClampNeg (1 : Int32)) (3 : Int32).toNatClampNeg (0 : Int32)) (4 : Int32).toNatClampNeg (1 : Int32))))]]) := hD
  refine lv_dup hx hb dL_firstRules_29 rfl ?_
  refine lv_iconst (v := (5 : Int32)) hx hb dL_firstRules_30 (by decide) ?_
  refine lv_iconst (v := (0 : Int32)) hx hb dL_firstRules_31 (by decide) ?_
  obtain ⟨h_32, hF⟩ := z_in hF
  obtain ⟨k_32, hk_32, hs_32⟩ := zS_one hP 3 rfl
  refine va_iast hx hb hK hP hD hS k_32 0 hk_32 rfl h_32 dL_firstRules_32 (fun H locs hP hD hS => ?_)
  rw [hs_32] at hP hD
  have hP : va_P G vwCl (zW [[(aT, .inr (12, [.ref aCol, .int vTa, .ref aFa, .ref aRu, .int (2 : Int32), .ref aRo, .ref aLa, .ref aVa]))], [(aRu, .inl (tt 5, 5, .inr (.inr (.inr (.inr (fun j => some (eRu j)))))))], (wA eRu (tt 0) 5 25 vRu), [(a_n7, .inl (tt 0, 10, .inl (upd (upd (upd (upd (upd (upd (fun _ => (0 : Int32)) (0 : Int32).toNatClampNeg (1 : Int32)) (1 : Int32).toNatClampNeg (0 : Int32)) (2 : Int32).toNatClampNeg (1 : Int32)) (3 : Int32).toNatClampNeg (0 : Int32)) (4 : Int32).toNatClampNeg (1 : Int32)) (5 : Int32).toNatClampNeg (0 : Int32))))]]) H := hP
  have hD : va_D A (zW [[(aT, .inr (12, [.ref aCol, .int vTa, .ref aFa, .ref aRu, .int (2 : Int32), .ref aRo, .ref aLa, .ref aVa]))], [(aRu, .inl (tt 5, 5, .inr (.inr (.inr (.inr (fun j => some (eRu j)))))))], (wA eRu (tt 0) 5 25 vRu), [(a_n7, .inl (tt 0, 10, .inl (upd (upd (upd (upd (upd (upd (fun _ => (0 : Int32)) (0 : Int32).toNatClampNeg (1 : Int32)) (1 : Int32).toNatClampNeg (0 : Int32)) (2 : Int32).toNatClampNeg (1 : Int32)) (3 : Int32).toNatClampNeg (0 : Int32)) (4 : Int32).toNatClampNeg (1 : Int32)) (5 : Int32).toNatClampNeg (0 : Int32))))]]) := hD
  refine lv_dup hx hb dL_firstRules_33 rfl ?_
  refine lv_bipush (v := (6 : Int32)) hx hb dL_firstRules_34 (by decide) ?_
  refine lv_iconst (v := (0 : Int32)) hx hb dL_firstRules_36 (by decide) ?_
  obtain ⟨h_37, hF⟩ := z_in hF
  obtain ⟨k_37, hk_37, hs_37⟩ := zS_one hP 3 rfl
  refine va_iast hx hb hK hP hD hS k_37 0 hk_37 rfl h_37 dL_firstRules_37 (fun H locs hP hD hS => ?_)
  rw [hs_37] at hP hD
  have hP : va_P G vwCl (zW [[(aT, .inr (12, [.ref aCol, .int vTa, .ref aFa, .ref aRu, .int (2 : Int32), .ref aRo, .ref aLa, .ref aVa]))], [(aRu, .inl (tt 5, 5, .inr (.inr (.inr (.inr (fun j => some (eRu j)))))))], (wA eRu (tt 0) 5 25 vRu), [(a_n7, .inl (tt 0, 10, .inl (upd (upd (upd (upd (upd (upd (upd (fun _ => (0 : Int32)) (0 : Int32).toNatClampNeg (1 : Int32)) (1 : Int32).toNatClampNeg (0 : Int32)) (2 : Int32).toNatClampNeg (1 : Int32)) (3 : Int32).toNatClampNeg (0 : Int32)) (4 : Int32).toNatClampNeg (1 : Int32)) (5 : Int32).toNatClampNeg (0 : Int32)) (6 : Int32).toNatClampNeg (0 : Int32))))]]) H := hP
  have hD : va_D A (zW [[(aT, .inr (12, [.ref aCol, .int vTa, .ref aFa, .ref aRu, .int (2 : Int32), .ref aRo, .ref aLa, .ref aVa]))], [(aRu, .inl (tt 5, 5, .inr (.inr (.inr (.inr (fun j => some (eRu j)))))))], (wA eRu (tt 0) 5 25 vRu), [(a_n7, .inl (tt 0, 10, .inl (upd (upd (upd (upd (upd (upd (upd (fun _ => (0 : Int32)) (0 : Int32).toNatClampNeg (1 : Int32)) (1 : Int32).toNatClampNeg (0 : Int32)) (2 : Int32).toNatClampNeg (1 : Int32)) (3 : Int32).toNatClampNeg (0 : Int32)) (4 : Int32).toNatClampNeg (1 : Int32)) (5 : Int32).toNatClampNeg (0 : Int32)) (6 : Int32).toNatClampNeg (0 : Int32))))]]) := hD
  refine lv_dup hx hb dL_firstRules_38 rfl ?_
  refine lv_bipush (v := (7 : Int32)) hx hb dL_firstRules_39 (by decide) ?_
  refine lv_iconst (v := (1 : Int32)) hx hb dL_firstRules_41 (by decide) ?_
  obtain ⟨h_42, hF⟩ := z_in hF
  obtain ⟨k_42, hk_42, hs_42⟩ := zS_one hP 3 rfl
  refine va_iast hx hb hK hP hD hS k_42 0 hk_42 rfl h_42 dL_firstRules_42 (fun H locs hP hD hS => ?_)
  rw [hs_42] at hP hD
  have hP : va_P G vwCl (zW [[(aT, .inr (12, [.ref aCol, .int vTa, .ref aFa, .ref aRu, .int (2 : Int32), .ref aRo, .ref aLa, .ref aVa]))], [(aRu, .inl (tt 5, 5, .inr (.inr (.inr (.inr (fun j => some (eRu j)))))))], (wA eRu (tt 0) 5 25 vRu), [(a_n7, .inl (tt 0, 10, .inl (upd (upd (upd (upd (upd (upd (upd (upd (fun _ => (0 : Int32)) (0 : Int32).toNatClampNeg (1 : Int32)) (1 : Int32).toNatClampNeg (0 : Int32)) (2 : Int32).toNatClampNeg (1 : Int32)) (3 : Int32).toNatClampNeg (0 : Int32)) (4 : Int32).toNatClampNeg (1 : Int32)) (5 : Int32).toNatClampNeg (0 : Int32)) (6 : Int32).toNatClampNeg (0 : Int32)) (7 : Int32).toNatClampNeg (1 : Int32))))]]) H := hP
  have hD : va_D A (zW [[(aT, .inr (12, [.ref aCol, .int vTa, .ref aFa, .ref aRu, .int (2 : Int32), .ref aRo, .ref aLa, .ref aVa]))], [(aRu, .inl (tt 5, 5, .inr (.inr (.inr (.inr (fun j => some (eRu j)))))))], (wA eRu (tt 0) 5 25 vRu), [(a_n7, .inl (tt 0, 10, .inl (upd (upd (upd (upd (upd (upd (upd (upd (fun _ => (0 : Int32)) (0 : Int32).toNatClampNeg (1 : Int32)) (1 : Int32).toNatClampNeg (0 : Int32)) (2 : Int32).toNatClampNeg (1 : Int32)) (3 : Int32).toNatClampNeg (0 : Int32)) (4 : Int32).toNatClampNeg (1 : Int32)) (5 : Int32).toNatClampNeg (0 : Int32)) (6 : Int32).toNatClampNeg (0 : Int32)) (7 : Int32).toNatClampNeg (1 : Int32))))]]) := hD
  refine lv_dup hx hb dL_firstRules_43 rfl ?_
  refine lv_bipush (v := (8 : Int32)) hx hb dL_firstRules_44 (by decide) ?_
  refine lv_iconst (v := (0 : Int32)) hx hb dL_firstRules_46 (by decide) ?_
  obtain ⟨h_47, hF⟩ := z_in hF
  obtain ⟨k_47, hk_47, hs_47⟩ := zS_one hP 3 rfl
  refine va_iast hx hb hK hP hD hS k_47 0 hk_47 rfl h_47 dL_firstRules_47 (fun H locs hP hD hS => ?_)
  rw [hs_47] at hP hD
  have hP : va_P G vwCl (zW [[(aT, .inr (12, [.ref aCol, .int vTa, .ref aFa, .ref aRu, .int (2 : Int32), .ref aRo, .ref aLa, .ref aVa]))], [(aRu, .inl (tt 5, 5, .inr (.inr (.inr (.inr (fun j => some (eRu j)))))))], (wA eRu (tt 0) 5 25 vRu), [(a_n7, .inl (tt 0, 10, .inl (upd (upd (upd (upd (upd (upd (upd (upd (upd (fun _ => (0 : Int32)) (0 : Int32).toNatClampNeg (1 : Int32)) (1 : Int32).toNatClampNeg (0 : Int32)) (2 : Int32).toNatClampNeg (1 : Int32)) (3 : Int32).toNatClampNeg (0 : Int32)) (4 : Int32).toNatClampNeg (1 : Int32)) (5 : Int32).toNatClampNeg (0 : Int32)) (6 : Int32).toNatClampNeg (0 : Int32)) (7 : Int32).toNatClampNeg (1 : Int32)) (8 : Int32).toNatClampNeg (0 : Int32))))]]) H := hP
  have hD : va_D A (zW [[(aT, .inr (12, [.ref aCol, .int vTa, .ref aFa, .ref aRu, .int (2 : Int32), .ref aRo, .ref aLa, .ref aVa]))], [(aRu, .inl (tt 5, 5, .inr (.inr (.inr (.inr (fun j => some (eRu j)))))))], (wA eRu (tt 0) 5 25 vRu), [(a_n7, .inl (tt 0, 10, .inl (upd (upd (upd (upd (upd (upd (upd (upd (upd (fun _ => (0 : Int32)) (0 : Int32).toNatClampNeg (1 : Int32)) (1 : Int32).toNatClampNeg (0 : Int32)) (2 : Int32).toNatClampNeg (1 : Int32)) (3 : Int32).toNatClampNeg (0 : Int32)) (4 : Int32).toNatClampNeg (1 : Int32)) (5 : Int32).toNatClampNeg (0 : Int32)) (6 : Int32).toNatClampNeg (0 : Int32)) (7 : Int32).toNatClampNeg (1 : Int32)) (8 : Int32).toNatClampNeg (0 : Int32))))]]) := hD
  refine lv_dup hx hb dL_firstRules_48 rfl ?_
  refine lv_bipush (v := (9 : Int32)) hx hb dL_firstRules_49 (by decide) ?_
  refine lv_iconst (v := (0 : Int32)) hx hb dL_firstRules_51 (by decide) ?_
  obtain ⟨h_52, hF⟩ := z_in hF
  obtain ⟨k_52, hk_52, hs_52⟩ := zS_one hP 3 rfl
  refine va_iast hx hb hK hP hD hS k_52 0 hk_52 rfl h_52 dL_firstRules_52 (fun H locs hP hD hS => ?_)
  rw [hs_52] at hP hD
  have hP : va_P G vwCl (zW [[(aT, .inr (12, [.ref aCol, .int vTa, .ref aFa, .ref aRu, .int (2 : Int32), .ref aRo, .ref aLa, .ref aVa]))], [(aRu, .inl (tt 5, 5, .inr (.inr (.inr (.inr (fun j => some (eRu j)))))))], (wA eRu (tt 0) 5 25 vRu), [(a_n7, .inl (tt 0, 10, .inl (upd (upd (upd (upd (upd (upd (upd (upd (upd (upd (fun _ => (0 : Int32)) (0 : Int32).toNatClampNeg (1 : Int32)) (1 : Int32).toNatClampNeg (0 : Int32)) (2 : Int32).toNatClampNeg (1 : Int32)) (3 : Int32).toNatClampNeg (0 : Int32)) (4 : Int32).toNatClampNeg (1 : Int32)) (5 : Int32).toNatClampNeg (0 : Int32)) (6 : Int32).toNatClampNeg (0 : Int32)) (7 : Int32).toNatClampNeg (1 : Int32)) (8 : Int32).toNatClampNeg (0 : Int32)) (9 : Int32).toNatClampNeg (0 : Int32))))]]) H := hP
  have hD : va_D A (zW [[(aT, .inr (12, [.ref aCol, .int vTa, .ref aFa, .ref aRu, .int (2 : Int32), .ref aRo, .ref aLa, .ref aVa]))], [(aRu, .inl (tt 5, 5, .inr (.inr (.inr (.inr (fun j => some (eRu j)))))))], (wA eRu (tt 0) 5 25 vRu), [(a_n7, .inl (tt 0, 10, .inl (upd (upd (upd (upd (upd (upd (upd (upd (upd (upd (fun _ => (0 : Int32)) (0 : Int32).toNatClampNeg (1 : Int32)) (1 : Int32).toNatClampNeg (0 : Int32)) (2 : Int32).toNatClampNeg (1 : Int32)) (3 : Int32).toNatClampNeg (0 : Int32)) (4 : Int32).toNatClampNeg (1 : Int32)) (5 : Int32).toNatClampNeg (0 : Int32)) (6 : Int32).toNatClampNeg (0 : Int32)) (7 : Int32).toNatClampNeg (1 : Int32)) (8 : Int32).toNatClampNeg (0 : Int32)) (9 : Int32).toNatClampNeg (0 : Int32))))]]) := hD
  refine lv_astore_n (lv' := [(1, .ref a_n7), (0, .ref aT)]) hx hb dL_firstRules_53 rfl hl (by decide) rfl (fun ls hl => ?_)
  refine lv_bipush (v := (15 : Int32)) hx hb dL_firstRules_54 (by decide) ?_
  refine z_newa (atype := .int) (ty := .int) (N' := 15) (a0 := (15, .inl (fun _ => (0 : Int32)))) hx hb (hts (.arrayClass .int) (List.mem_of_getElem? (i := 2) rfl)) rfl hK hP hD hS hA 0 rfl (fun _ => rfl) (by decide) (by decide +kernel) (Nat.le_of_ble_eq_true rfl) (Nat.le_of_ble_eq_true rfl) (Nat.le_of_ble_eq_true rfl) dL_firstRules_56 (fun a_n56 H hP hD hS => ?_)
  rw [← zW_1 [(a_n56, _)], ← zW_app] at hP hD
  have hP : va_P G vwCl (zW [[(aT, .inr (12, [.ref aCol, .int vTa, .ref aFa, .ref aRu, .int (2 : Int32), .ref aRo, .ref aLa, .ref aVa]))], [(aRu, .inl (tt 5, 5, .inr (.inr (.inr (.inr (fun j => some (eRu j)))))))], (wA eRu (tt 0) 5 25 vRu), [(a_n7, .inl (tt 0, 10, .inl (upd (upd (upd (upd (upd (upd (upd (upd (upd (upd (fun _ => (0 : Int32)) (0 : Int32).toNatClampNeg (1 : Int32)) (1 : Int32).toNatClampNeg (0 : Int32)) (2 : Int32).toNatClampNeg (1 : Int32)) (3 : Int32).toNatClampNeg (0 : Int32)) (4 : Int32).toNatClampNeg (1 : Int32)) (5 : Int32).toNatClampNeg (0 : Int32)) (6 : Int32).toNatClampNeg (0 : Int32)) (7 : Int32).toNatClampNeg (1 : Int32)) (8 : Int32).toNatClampNeg (0 : Int32)) (9 : Int32).toNatClampNeg (0 : Int32))))], [(a_n56, .inl (tt 0, 15, .inl (fun _ => (0 : Int32))))]]) H := hP
  have hD : va_D A (zW [[(aT, .inr (12, [.ref aCol, .int vTa, .ref aFa, .ref aRu, .int (2 : Int32), .ref aRo, .ref aLa, .ref aVa]))], [(aRu, .inl (tt 5, 5, .inr (.inr (.inr (.inr (fun j => some (eRu j)))))))], (wA eRu (tt 0) 5 25 vRu), [(a_n7, .inl (tt 0, 10, .inl (upd (upd (upd (upd (upd (upd (upd (upd (upd (upd (fun _ => (0 : Int32)) (0 : Int32).toNatClampNeg (1 : Int32)) (1 : Int32).toNatClampNeg (0 : Int32)) (2 : Int32).toNatClampNeg (1 : Int32)) (3 : Int32).toNatClampNeg (0 : Int32)) (4 : Int32).toNatClampNeg (1 : Int32)) (5 : Int32).toNatClampNeg (0 : Int32)) (6 : Int32).toNatClampNeg (0 : Int32)) (7 : Int32).toNatClampNeg (1 : Int32)) (8 : Int32).toNatClampNeg (0 : Int32)) (9 : Int32).toNatClampNeg (0 : Int32))))], [(a_n56, .inl (tt 0, 15, .inl (fun _ => (0 : Int32))))]]) := hD
  refine lv_dup hx hb dL_firstRules_58 rfl ?_
  refine lv_iconst (v := (0 : Int32)) hx hb dL_firstRules_59 (by decide) ?_
  refine lv_iconst (v := (1 : Int32)) hx hb dL_firstRules_60 (by decide) ?_
  obtain ⟨h_61, hF⟩ := z_in hF
  obtain ⟨k_61, hk_61, hs_61⟩ := zS_one hP 4 rfl
  refine va_iast hx hb hK hP hD hS k_61 0 hk_61 rfl h_61 dL_firstRules_61 (fun H locs hP hD hS => ?_)
  rw [hs_61] at hP hD
  have hP : va_P G vwCl (zW [[(aT, .inr (12, [.ref aCol, .int vTa, .ref aFa, .ref aRu, .int (2 : Int32), .ref aRo, .ref aLa, .ref aVa]))], [(aRu, .inl (tt 5, 5, .inr (.inr (.inr (.inr (fun j => some (eRu j)))))))], (wA eRu (tt 0) 5 25 vRu), [(a_n7, .inl (tt 0, 10, .inl (upd (upd (upd (upd (upd (upd (upd (upd (upd (upd (fun _ => (0 : Int32)) (0 : Int32).toNatClampNeg (1 : Int32)) (1 : Int32).toNatClampNeg (0 : Int32)) (2 : Int32).toNatClampNeg (1 : Int32)) (3 : Int32).toNatClampNeg (0 : Int32)) (4 : Int32).toNatClampNeg (1 : Int32)) (5 : Int32).toNatClampNeg (0 : Int32)) (6 : Int32).toNatClampNeg (0 : Int32)) (7 : Int32).toNatClampNeg (1 : Int32)) (8 : Int32).toNatClampNeg (0 : Int32)) (9 : Int32).toNatClampNeg (0 : Int32))))], [(a_n56, .inl (tt 0, 15, .inl (upd (fun _ => (0 : Int32)) (0 : Int32).toNatClampNeg (1 : Int32))))]]) H := hP
  have hD : va_D A (zW [[(aT, .inr (12, [.ref aCol, .int vTa, .ref aFa, .ref aRu, .int (2 : Int32), .ref aRo, .ref aLa, .ref aVa]))], [(aRu, .inl (tt 5, 5, .inr (.inr (.inr (.inr (fun j => some (eRu j)))))))], (wA eRu (tt 0) 5 25 vRu), [(a_n7, .inl (tt 0, 10, .inl (upd (upd (upd (upd (upd (upd (upd (upd (upd (upd (fun _ => (0 : Int32)) (0 : Int32).toNatClampNeg (1 : Int32)) (1 : Int32).toNatClampNeg (0 : Int32)) (2 : Int32).toNatClampNeg (1 : Int32)) (3 : Int32).toNatClampNeg (0 : Int32)) (4 : Int32).toNatClampNeg (1 : Int32)) (5 : Int32).toNatClampNeg (0 : Int32)) (6 : Int32).toNatClampNeg (0 : Int32)) (7 : Int32).toNatClampNeg (1 : Int32)) (8 : Int32).toNatClampNeg (0 : Int32)) (9 : Int32).toNatClampNeg (0 : Int32))))], [(a_n56, .inl (tt 0, 15, .inl (upd (fun _ => (0 : Int32)) (0 : Int32).toNatClampNeg (1 : Int32))))]]) := hD
  refine lv_dup hx hb dL_firstRules_62 rfl ?_
  refine lv_iconst (v := (1 : Int32)) hx hb dL_firstRules_63 (by decide) ?_
  refine lv_iconst (v := (0 : Int32)) hx hb dL_firstRules_64 (by decide) ?_
  obtain ⟨h_65, hF⟩ := z_in hF
  obtain ⟨k_65, hk_65, hs_65⟩ := zS_one hP 4 rfl
  refine va_iast hx hb hK hP hD hS k_65 0 hk_65 rfl h_65 dL_firstRules_65 (fun H locs hP hD hS => ?_)
  rw [hs_65] at hP hD
  have hP : va_P G vwCl (zW [[(aT, .inr (12, [.ref aCol, .int vTa, .ref aFa, .ref aRu, .int (2 : Int32), .ref aRo, .ref aLa, .ref aVa]))], [(aRu, .inl (tt 5, 5, .inr (.inr (.inr (.inr (fun j => some (eRu j)))))))], (wA eRu (tt 0) 5 25 vRu), [(a_n7, .inl (tt 0, 10, .inl (upd (upd (upd (upd (upd (upd (upd (upd (upd (upd (fun _ => (0 : Int32)) (0 : Int32).toNatClampNeg (1 : Int32)) (1 : Int32).toNatClampNeg (0 : Int32)) (2 : Int32).toNatClampNeg (1 : Int32)) (3 : Int32).toNatClampNeg (0 : Int32)) (4 : Int32).toNatClampNeg (1 : Int32)) (5 : Int32).toNatClampNeg (0 : Int32)) (6 : Int32).toNatClampNeg (0 : Int32)) (7 : Int32).toNatClampNeg (1 : Int32)) (8 : Int32).toNatClampNeg (0 : Int32)) (9 : Int32).toNatClampNeg (0 : Int32))))], [(a_n56, .inl (tt 0, 15, .inl (upd (upd (fun _ => (0 : Int32)) (0 : Int32).toNatClampNeg (1 : Int32)) (1 : Int32).toNatClampNeg (0 : Int32))))]]) H := hP
  have hD : va_D A (zW [[(aT, .inr (12, [.ref aCol, .int vTa, .ref aFa, .ref aRu, .int (2 : Int32), .ref aRo, .ref aLa, .ref aVa]))], [(aRu, .inl (tt 5, 5, .inr (.inr (.inr (.inr (fun j => some (eRu j)))))))], (wA eRu (tt 0) 5 25 vRu), [(a_n7, .inl (tt 0, 10, .inl (upd (upd (upd (upd (upd (upd (upd (upd (upd (upd (fun _ => (0 : Int32)) (0 : Int32).toNatClampNeg (1 : Int32)) (1 : Int32).toNatClampNeg (0 : Int32)) (2 : Int32).toNatClampNeg (1 : Int32)) (3 : Int32).toNatClampNeg (0 : Int32)) (4 : Int32).toNatClampNeg (1 : Int32)) (5 : Int32).toNatClampNeg (0 : Int32)) (6 : Int32).toNatClampNeg (0 : Int32)) (7 : Int32).toNatClampNeg (1 : Int32)) (8 : Int32).toNatClampNeg (0 : Int32)) (9 : Int32).toNatClampNeg (0 : Int32))))], [(a_n56, .inl (tt 0, 15, .inl (upd (upd (fun _ => (0 : Int32)) (0 : Int32).toNatClampNeg (1 : Int32)) (1 : Int32).toNatClampNeg (0 : Int32))))]]) := hD
  refine lv_dup hx hb dL_firstRules_66 rfl ?_
  refine lv_iconst (v := (2 : Int32)) hx hb dL_firstRules_67 (by decide) ?_
  refine lv_iconst (v := (2 : Int32)) hx hb dL_firstRules_68 (by decide) ?_
  obtain ⟨h_69, hF⟩ := z_in hF
  obtain ⟨k_69, hk_69, hs_69⟩ := zS_one hP 4 rfl
  refine va_iast hx hb hK hP hD hS k_69 0 hk_69 rfl h_69 dL_firstRules_69 (fun H locs hP hD hS => ?_)
  rw [hs_69] at hP hD
  have hP : va_P G vwCl (zW [[(aT, .inr (12, [.ref aCol, .int vTa, .ref aFa, .ref aRu, .int (2 : Int32), .ref aRo, .ref aLa, .ref aVa]))], [(aRu, .inl (tt 5, 5, .inr (.inr (.inr (.inr (fun j => some (eRu j)))))))], (wA eRu (tt 0) 5 25 vRu), [(a_n7, .inl (tt 0, 10, .inl (upd (upd (upd (upd (upd (upd (upd (upd (upd (upd (fun _ => (0 : Int32)) (0 : Int32).toNatClampNeg (1 : Int32)) (1 : Int32).toNatClampNeg (0 : Int32)) (2 : Int32).toNatClampNeg (1 : Int32)) (3 : Int32).toNatClampNeg (0 : Int32)) (4 : Int32).toNatClampNeg (1 : Int32)) (5 : Int32).toNatClampNeg (0 : Int32)) (6 : Int32).toNatClampNeg (0 : Int32)) (7 : Int32).toNatClampNeg (1 : Int32)) (8 : Int32).toNatClampNeg (0 : Int32)) (9 : Int32).toNatClampNeg (0 : Int32))))], [(a_n56, .inl (tt 0, 15, .inl (upd (upd (upd (fun _ => (0 : Int32)) (0 : Int32).toNatClampNeg (1 : Int32)) (1 : Int32).toNatClampNeg (0 : Int32)) (2 : Int32).toNatClampNeg (2 : Int32))))]]) H := hP
  have hD : va_D A (zW [[(aT, .inr (12, [.ref aCol, .int vTa, .ref aFa, .ref aRu, .int (2 : Int32), .ref aRo, .ref aLa, .ref aVa]))], [(aRu, .inl (tt 5, 5, .inr (.inr (.inr (.inr (fun j => some (eRu j)))))))], (wA eRu (tt 0) 5 25 vRu), [(a_n7, .inl (tt 0, 10, .inl (upd (upd (upd (upd (upd (upd (upd (upd (upd (upd (fun _ => (0 : Int32)) (0 : Int32).toNatClampNeg (1 : Int32)) (1 : Int32).toNatClampNeg (0 : Int32)) (2 : Int32).toNatClampNeg (1 : Int32)) (3 : Int32).toNatClampNeg (0 : Int32)) (4 : Int32).toNatClampNeg (1 : Int32)) (5 : Int32).toNatClampNeg (0 : Int32)) (6 : Int32).toNatClampNeg (0 : Int32)) (7 : Int32).toNatClampNeg (1 : Int32)) (8 : Int32).toNatClampNeg (0 : Int32)) (9 : Int32).toNatClampNeg (0 : Int32))))], [(a_n56, .inl (tt 0, 15, .inl (upd (upd (upd (fun _ => (0 : Int32)) (0 : Int32).toNatClampNeg (1 : Int32)) (1 : Int32).toNatClampNeg (0 : Int32)) (2 : Int32).toNatClampNeg (2 : Int32))))]]) := hD
  refine lv_dup hx hb dL_firstRules_70 rfl ?_
  refine lv_iconst (v := (3 : Int32)) hx hb dL_firstRules_71 (by decide) ?_
  refine lv_iconst (v := (0 : Int32)) hx hb dL_firstRules_72 (by decide) ?_
  obtain ⟨h_73, hF⟩ := z_in hF
  obtain ⟨k_73, hk_73, hs_73⟩ := zS_one hP 4 rfl
  refine va_iast hx hb hK hP hD hS k_73 0 hk_73 rfl h_73 dL_firstRules_73 (fun H locs hP hD hS => ?_)
  rw [hs_73] at hP hD
  have hP : va_P G vwCl (zW [[(aT, .inr (12, [.ref aCol, .int vTa, .ref aFa, .ref aRu, .int (2 : Int32), .ref aRo, .ref aLa, .ref aVa]))], [(aRu, .inl (tt 5, 5, .inr (.inr (.inr (.inr (fun j => some (eRu j)))))))], (wA eRu (tt 0) 5 25 vRu), [(a_n7, .inl (tt 0, 10, .inl (upd (upd (upd (upd (upd (upd (upd (upd (upd (upd (fun _ => (0 : Int32)) (0 : Int32).toNatClampNeg (1 : Int32)) (1 : Int32).toNatClampNeg (0 : Int32)) (2 : Int32).toNatClampNeg (1 : Int32)) (3 : Int32).toNatClampNeg (0 : Int32)) (4 : Int32).toNatClampNeg (1 : Int32)) (5 : Int32).toNatClampNeg (0 : Int32)) (6 : Int32).toNatClampNeg (0 : Int32)) (7 : Int32).toNatClampNeg (1 : Int32)) (8 : Int32).toNatClampNeg (0 : Int32)) (9 : Int32).toNatClampNeg (0 : Int32))))], [(a_n56, .inl (tt 0, 15, .inl (upd (upd (upd (upd (fun _ => (0 : Int32)) (0 : Int32).toNatClampNeg (1 : Int32)) (1 : Int32).toNatClampNeg (0 : Int32)) (2 : Int32).toNatClampNeg (2 : Int32)) (3 : Int32).toNatClampNeg (0 : Int32))))]]) H := hP
  have hD : va_D A (zW [[(aT, .inr (12, [.ref aCol, .int vTa, .ref aFa, .ref aRu, .int (2 : Int32), .ref aRo, .ref aLa, .ref aVa]))], [(aRu, .inl (tt 5, 5, .inr (.inr (.inr (.inr (fun j => some (eRu j)))))))], (wA eRu (tt 0) 5 25 vRu), [(a_n7, .inl (tt 0, 10, .inl (upd (upd (upd (upd (upd (upd (upd (upd (upd (upd (fun _ => (0 : Int32)) (0 : Int32).toNatClampNeg (1 : Int32)) (1 : Int32).toNatClampNeg (0 : Int32)) (2 : Int32).toNatClampNeg (1 : Int32)) (3 : Int32).toNatClampNeg (0 : Int32)) (4 : Int32).toNatClampNeg (1 : Int32)) (5 : Int32).toNatClampNeg (0 : Int32)) (6 : Int32).toNatClampNeg (0 : Int32)) (7 : Int32).toNatClampNeg (1 : Int32)) (8 : Int32).toNatClampNeg (0 : Int32)) (9 : Int32).toNatClampNeg (0 : Int32))))], [(a_n56, .inl (tt 0, 15, .inl (upd (upd (upd (upd (fun _ => (0 : Int32)) (0 : Int32).toNatClampNeg (1 : Int32)) (1 : Int32).toNatClampNeg (0 : Int32)) (2 : Int32).toNatClampNeg (2 : Int32)) (3 : Int32).toNatClampNeg (0 : Int32))))]]) := hD
  refine lv_dup hx hb dL_firstRules_74 rfl ?_
  refine lv_iconst (v := (4 : Int32)) hx hb dL_firstRules_75 (by decide) ?_
  refine lv_iconst (v := (2 : Int32)) hx hb dL_firstRules_76 (by decide) ?_
  obtain ⟨h_77, hF⟩ := z_in hF
  obtain ⟨k_77, hk_77, hs_77⟩ := zS_one hP 4 rfl
  refine va_iast hx hb hK hP hD hS k_77 0 hk_77 rfl h_77 dL_firstRules_77 (fun H locs hP hD hS => ?_)
  rw [hs_77] at hP hD
  have hP : va_P G vwCl (zW [[(aT, .inr (12, [.ref aCol, .int vTa, .ref aFa, .ref aRu, .int (2 : Int32), .ref aRo, .ref aLa, .ref aVa]))], [(aRu, .inl (tt 5, 5, .inr (.inr (.inr (.inr (fun j => some (eRu j)))))))], (wA eRu (tt 0) 5 25 vRu), [(a_n7, .inl (tt 0, 10, .inl (upd (upd (upd (upd (upd (upd (upd (upd (upd (upd (fun _ => (0 : Int32)) (0 : Int32).toNatClampNeg (1 : Int32)) (1 : Int32).toNatClampNeg (0 : Int32)) (2 : Int32).toNatClampNeg (1 : Int32)) (3 : Int32).toNatClampNeg (0 : Int32)) (4 : Int32).toNatClampNeg (1 : Int32)) (5 : Int32).toNatClampNeg (0 : Int32)) (6 : Int32).toNatClampNeg (0 : Int32)) (7 : Int32).toNatClampNeg (1 : Int32)) (8 : Int32).toNatClampNeg (0 : Int32)) (9 : Int32).toNatClampNeg (0 : Int32))))], [(a_n56, .inl (tt 0, 15, .inl (upd (upd (upd (upd (upd (fun _ => (0 : Int32)) (0 : Int32).toNatClampNeg (1 : Int32)) (1 : Int32).toNatClampNeg (0 : Int32)) (2 : Int32).toNatClampNeg (2 : Int32)) (3 : Int32).toNatClampNeg (0 : Int32)) (4 : Int32).toNatClampNeg (2 : Int32))))]]) H := hP
  have hD : va_D A (zW [[(aT, .inr (12, [.ref aCol, .int vTa, .ref aFa, .ref aRu, .int (2 : Int32), .ref aRo, .ref aLa, .ref aVa]))], [(aRu, .inl (tt 5, 5, .inr (.inr (.inr (.inr (fun j => some (eRu j)))))))], (wA eRu (tt 0) 5 25 vRu), [(a_n7, .inl (tt 0, 10, .inl (upd (upd (upd (upd (upd (upd (upd (upd (upd (upd (fun _ => (0 : Int32)) (0 : Int32).toNatClampNeg (1 : Int32)) (1 : Int32).toNatClampNeg (0 : Int32)) (2 : Int32).toNatClampNeg (1 : Int32)) (3 : Int32).toNatClampNeg (0 : Int32)) (4 : Int32).toNatClampNeg (1 : Int32)) (5 : Int32).toNatClampNeg (0 : Int32)) (6 : Int32).toNatClampNeg (0 : Int32)) (7 : Int32).toNatClampNeg (1 : Int32)) (8 : Int32).toNatClampNeg (0 : Int32)) (9 : Int32).toNatClampNeg (0 : Int32))))], [(a_n56, .inl (tt 0, 15, .inl (upd (upd (upd (upd (upd (fun _ => (0 : Int32)) (0 : Int32).toNatClampNeg (1 : Int32)) (1 : Int32).toNatClampNeg (0 : Int32)) (2 : Int32).toNatClampNeg (2 : Int32)) (3 : Int32).toNatClampNeg (0 : Int32)) (4 : Int32).toNatClampNeg (2 : Int32))))]]) := hD
  refine lv_dup hx hb dL_firstRules_78 rfl ?_
  refine lv_iconst (v := (5 : Int32)) hx hb dL_firstRules_79 (by decide) ?_
  refine lv_iconst (v := (1 : Int32)) hx hb dL_firstRules_80 (by decide) ?_
  obtain ⟨h_81, hF⟩ := z_in hF
  obtain ⟨k_81, hk_81, hs_81⟩ := zS_one hP 4 rfl
  refine va_iast hx hb hK hP hD hS k_81 0 hk_81 rfl h_81 dL_firstRules_81 (fun H locs hP hD hS => ?_)
  rw [hs_81] at hP hD
  have hP : va_P G vwCl (zW [[(aT, .inr (12, [.ref aCol, .int vTa, .ref aFa, .ref aRu, .int (2 : Int32), .ref aRo, .ref aLa, .ref aVa]))], [(aRu, .inl (tt 5, 5, .inr (.inr (.inr (.inr (fun j => some (eRu j)))))))], (wA eRu (tt 0) 5 25 vRu), [(a_n7, .inl (tt 0, 10, .inl (upd (upd (upd (upd (upd (upd (upd (upd (upd (upd (fun _ => (0 : Int32)) (0 : Int32).toNatClampNeg (1 : Int32)) (1 : Int32).toNatClampNeg (0 : Int32)) (2 : Int32).toNatClampNeg (1 : Int32)) (3 : Int32).toNatClampNeg (0 : Int32)) (4 : Int32).toNatClampNeg (1 : Int32)) (5 : Int32).toNatClampNeg (0 : Int32)) (6 : Int32).toNatClampNeg (0 : Int32)) (7 : Int32).toNatClampNeg (1 : Int32)) (8 : Int32).toNatClampNeg (0 : Int32)) (9 : Int32).toNatClampNeg (0 : Int32))))], [(a_n56, .inl (tt 0, 15, .inl (upd (upd (upd (upd (upd (upd (fun _ => (0 : Int32)) (0 : Int32).toNatClampNeg (1 : Int32)) (1 : Int32).toNatClampNeg (0 : Int32)) (2 : Int32).toNatClampNeg (2 : Int32)) (3 : Int32).toNatClampNeg (0 : Int32)) (4 : Int32).toNatClampNeg (2 : Int32)) (5 : Int32).toNatClampNeg (1 : Int32))))]]) H := hP
  have hD : va_D A (zW [[(aT, .inr (12, [.ref aCol, .int vTa, .ref aFa, .ref aRu, .int (2 : Int32), .ref aRo, .ref aLa, .ref aVa]))], [(aRu, .inl (tt 5, 5, .inr (.inr (.inr (.inr (fun j => some (eRu j)))))))], (wA eRu (tt 0) 5 25 vRu), [(a_n7, .inl (tt 0, 10, .inl (upd (upd (upd (upd (upd (upd (upd (upd (upd (upd (fun _ => (0 : Int32)) (0 : Int32).toNatClampNeg (1 : Int32)) (1 : Int32).toNatClampNeg (0 : Int32)) (2 : Int32).toNatClampNeg (1 : Int32)) (3 : Int32).toNatClampNeg (0 : Int32)) (4 : Int32).toNatClampNeg (1 : Int32)) (5 : Int32).toNatClampNeg (0 : Int32)) (6 : Int32).toNatClampNeg (0 : Int32)) (7 : Int32).toNatClampNeg (1 : Int32)) (8 : Int32).toNatClampNeg (0 : Int32)) (9 : Int32).toNatClampNeg (0 : Int32))))], [(a_n56, .inl (tt 0, 15, .inl (upd (upd (upd (upd (upd (upd (fun _ => (0 : Int32)) (0 : Int32).toNatClampNeg (1 : Int32)) (1 : Int32).toNatClampNeg (0 : Int32)) (2 : Int32).toNatClampNeg (2 : Int32)) (3 : Int32).toNatClampNeg (0 : Int32)) (4 : Int32).toNatClampNeg (2 : Int32)) (5 : Int32).toNatClampNeg (1 : Int32))))]]) := hD
  refine lv_dup hx hb dL_firstRules_82 rfl ?_
  refine lv_bipush (v := (6 : Int32)) hx hb dL_firstRules_83 (by decide) ?_
  refine lv_iconst (v := (0 : Int32)) hx hb dL_firstRules_85 (by decide) ?_
  obtain ⟨h_86, hF⟩ := z_in hF
  obtain ⟨k_86, hk_86, hs_86⟩ := zS_one hP 4 rfl
  refine va_iast hx hb hK hP hD hS k_86 0 hk_86 rfl h_86 dL_firstRules_86 (fun H locs hP hD hS => ?_)
  rw [hs_86] at hP hD
  have hP : va_P G vwCl (zW [[(aT, .inr (12, [.ref aCol, .int vTa, .ref aFa, .ref aRu, .int (2 : Int32), .ref aRo, .ref aLa, .ref aVa]))], [(aRu, .inl (tt 5, 5, .inr (.inr (.inr (.inr (fun j => some (eRu j)))))))], (wA eRu (tt 0) 5 25 vRu), [(a_n7, .inl (tt 0, 10, .inl (upd (upd (upd (upd (upd (upd (upd (upd (upd (upd (fun _ => (0 : Int32)) (0 : Int32).toNatClampNeg (1 : Int32)) (1 : Int32).toNatClampNeg (0 : Int32)) (2 : Int32).toNatClampNeg (1 : Int32)) (3 : Int32).toNatClampNeg (0 : Int32)) (4 : Int32).toNatClampNeg (1 : Int32)) (5 : Int32).toNatClampNeg (0 : Int32)) (6 : Int32).toNatClampNeg (0 : Int32)) (7 : Int32).toNatClampNeg (1 : Int32)) (8 : Int32).toNatClampNeg (0 : Int32)) (9 : Int32).toNatClampNeg (0 : Int32))))], [(a_n56, .inl (tt 0, 15, .inl (upd (upd (upd (upd (upd (upd (upd (fun _ => (0 : Int32)) (0 : Int32).toNatClampNeg (1 : Int32)) (1 : Int32).toNatClampNeg (0 : Int32)) (2 : Int32).toNatClampNeg (2 : Int32)) (3 : Int32).toNatClampNeg (0 : Int32)) (4 : Int32).toNatClampNeg (2 : Int32)) (5 : Int32).toNatClampNeg (1 : Int32)) (6 : Int32).toNatClampNeg (0 : Int32))))]]) H := hP
  have hD : va_D A (zW [[(aT, .inr (12, [.ref aCol, .int vTa, .ref aFa, .ref aRu, .int (2 : Int32), .ref aRo, .ref aLa, .ref aVa]))], [(aRu, .inl (tt 5, 5, .inr (.inr (.inr (.inr (fun j => some (eRu j)))))))], (wA eRu (tt 0) 5 25 vRu), [(a_n7, .inl (tt 0, 10, .inl (upd (upd (upd (upd (upd (upd (upd (upd (upd (upd (fun _ => (0 : Int32)) (0 : Int32).toNatClampNeg (1 : Int32)) (1 : Int32).toNatClampNeg (0 : Int32)) (2 : Int32).toNatClampNeg (1 : Int32)) (3 : Int32).toNatClampNeg (0 : Int32)) (4 : Int32).toNatClampNeg (1 : Int32)) (5 : Int32).toNatClampNeg (0 : Int32)) (6 : Int32).toNatClampNeg (0 : Int32)) (7 : Int32).toNatClampNeg (1 : Int32)) (8 : Int32).toNatClampNeg (0 : Int32)) (9 : Int32).toNatClampNeg (0 : Int32))))], [(a_n56, .inl (tt 0, 15, .inl (upd (upd (upd (upd (upd (upd (upd (fun _ => (0 : Int32)) (0 : Int32).toNatClampNeg (1 : Int32)) (1 : Int32).toNatClampNeg (0 : Int32)) (2 : Int32).toNatClampNeg (2 : Int32)) (3 : Int32).toNatClampNeg (0 : Int32)) (4 : Int32).toNatClampNeg (2 : Int32)) (5 : Int32).toNatClampNeg (1 : Int32)) (6 : Int32).toNatClampNeg (0 : Int32))))]]) := hD
  refine lv_dup hx hb dL_firstRules_87 rfl ?_
  refine lv_bipush (v := (7 : Int32)) hx hb dL_firstRules_88 (by decide) ?_
  refine lv_iconst (v := (1 : Int32)) hx hb dL_firstRules_90 (by decide) ?_
  obtain ⟨h_91, hF⟩ := z_in hF
  obtain ⟨k_91, hk_91, hs_91⟩ := zS_one hP 4 rfl
  refine va_iast hx hb hK hP hD hS k_91 0 hk_91 rfl h_91 dL_firstRules_91 (fun H locs hP hD hS => ?_)
  rw [hs_91] at hP hD
  have hP : va_P G vwCl (zW [[(aT, .inr (12, [.ref aCol, .int vTa, .ref aFa, .ref aRu, .int (2 : Int32), .ref aRo, .ref aLa, .ref aVa]))], [(aRu, .inl (tt 5, 5, .inr (.inr (.inr (.inr (fun j => some (eRu j)))))))], (wA eRu (tt 0) 5 25 vRu), [(a_n7, .inl (tt 0, 10, .inl (upd (upd (upd (upd (upd (upd (upd (upd (upd (upd (fun _ => (0 : Int32)) (0 : Int32).toNatClampNeg (1 : Int32)) (1 : Int32).toNatClampNeg (0 : Int32)) (2 : Int32).toNatClampNeg (1 : Int32)) (3 : Int32).toNatClampNeg (0 : Int32)) (4 : Int32).toNatClampNeg (1 : Int32)) (5 : Int32).toNatClampNeg (0 : Int32)) (6 : Int32).toNatClampNeg (0 : Int32)) (7 : Int32).toNatClampNeg (1 : Int32)) (8 : Int32).toNatClampNeg (0 : Int32)) (9 : Int32).toNatClampNeg (0 : Int32))))], [(a_n56, .inl (tt 0, 15, .inl (upd (upd (upd (upd (upd (upd (upd (upd (fun _ => (0 : Int32)) (0 : Int32).toNatClampNeg (1 : Int32)) (1 : Int32).toNatClampNeg (0 : Int32)) (2 : Int32).toNatClampNeg (2 : Int32)) (3 : Int32).toNatClampNeg (0 : Int32)) (4 : Int32).toNatClampNeg (2 : Int32)) (5 : Int32).toNatClampNeg (1 : Int32)) (6 : Int32).toNatClampNeg (0 : Int32)) (7 : Int32).toNatClampNeg (1 : Int32))))]]) H := hP
  have hD : va_D A (zW [[(aT, .inr (12, [.ref aCol, .int vTa, .ref aFa, .ref aRu, .int (2 : Int32), .ref aRo, .ref aLa, .ref aVa]))], [(aRu, .inl (tt 5, 5, .inr (.inr (.inr (.inr (fun j => some (eRu j)))))))], (wA eRu (tt 0) 5 25 vRu), [(a_n7, .inl (tt 0, 10, .inl (upd (upd (upd (upd (upd (upd (upd (upd (upd (upd (fun _ => (0 : Int32)) (0 : Int32).toNatClampNeg (1 : Int32)) (1 : Int32).toNatClampNeg (0 : Int32)) (2 : Int32).toNatClampNeg (1 : Int32)) (3 : Int32).toNatClampNeg (0 : Int32)) (4 : Int32).toNatClampNeg (1 : Int32)) (5 : Int32).toNatClampNeg (0 : Int32)) (6 : Int32).toNatClampNeg (0 : Int32)) (7 : Int32).toNatClampNeg (1 : Int32)) (8 : Int32).toNatClampNeg (0 : Int32)) (9 : Int32).toNatClampNeg (0 : Int32))))], [(a_n56, .inl (tt 0, 15, .inl (upd (upd (upd (upd (upd (upd (upd (upd (fun _ => (0 : Int32)) (0 : Int32).toNatClampNeg (1 : Int32)) (1 : Int32).toNatClampNeg (0 : Int32)) (2 : Int32).toNatClampNeg (2 : Int32)) (3 : Int32).toNatClampNeg (0 : Int32)) (4 : Int32).toNatClampNeg (2 : Int32)) (5 : Int32).toNatClampNeg (1 : Int32)) (6 : Int32).toNatClampNeg (0 : Int32)) (7 : Int32).toNatClampNeg (1 : Int32))))]]) := hD
  refine lv_dup hx hb dL_firstRules_92 rfl ?_
  refine lv_bipush (v := (8 : Int32)) hx hb dL_firstRules_93 (by decide) ?_
  refine lv_iconst (v := (0 : Int32)) hx hb dL_firstRules_95 (by decide) ?_
  obtain ⟨h_96, hF⟩ := z_in hF
  obtain ⟨k_96, hk_96, hs_96⟩ := zS_one hP 4 rfl
  refine va_iast hx hb hK hP hD hS k_96 0 hk_96 rfl h_96 dL_firstRules_96 (fun H locs hP hD hS => ?_)
  rw [hs_96] at hP hD
  have hP : va_P G vwCl (zW [[(aT, .inr (12, [.ref aCol, .int vTa, .ref aFa, .ref aRu, .int (2 : Int32), .ref aRo, .ref aLa, .ref aVa]))], [(aRu, .inl (tt 5, 5, .inr (.inr (.inr (.inr (fun j => some (eRu j)))))))], (wA eRu (tt 0) 5 25 vRu), [(a_n7, .inl (tt 0, 10, .inl (upd (upd (upd (upd (upd (upd (upd (upd (upd (upd (fun _ => (0 : Int32)) (0 : Int32).toNatClampNeg (1 : Int32)) (1 : Int32).toNatClampNeg (0 : Int32)) (2 : Int32).toNatClampNeg (1 : Int32)) (3 : Int32).toNatClampNeg (0 : Int32)) (4 : Int32).toNatClampNeg (1 : Int32)) (5 : Int32).toNatClampNeg (0 : Int32)) (6 : Int32).toNatClampNeg (0 : Int32)) (7 : Int32).toNatClampNeg (1 : Int32)) (8 : Int32).toNatClampNeg (0 : Int32)) (9 : Int32).toNatClampNeg (0 : Int32))))], [(a_n56, .inl (tt 0, 15, .inl (upd (upd (upd (upd (upd (upd (upd (upd (upd (fun _ => (0 : Int32)) (0 : Int32).toNatClampNeg (1 : Int32)) (1 : Int32).toNatClampNeg (0 : Int32)) (2 : Int32).toNatClampNeg (2 : Int32)) (3 : Int32).toNatClampNeg (0 : Int32)) (4 : Int32).toNatClampNeg (2 : Int32)) (5 : Int32).toNatClampNeg (1 : Int32)) (6 : Int32).toNatClampNeg (0 : Int32)) (7 : Int32).toNatClampNeg (1 : Int32)) (8 : Int32).toNatClampNeg (0 : Int32))))]]) H := hP
  have hD : va_D A (zW [[(aT, .inr (12, [.ref aCol, .int vTa, .ref aFa, .ref aRu, .int (2 : Int32), .ref aRo, .ref aLa, .ref aVa]))], [(aRu, .inl (tt 5, 5, .inr (.inr (.inr (.inr (fun j => some (eRu j)))))))], (wA eRu (tt 0) 5 25 vRu), [(a_n7, .inl (tt 0, 10, .inl (upd (upd (upd (upd (upd (upd (upd (upd (upd (upd (fun _ => (0 : Int32)) (0 : Int32).toNatClampNeg (1 : Int32)) (1 : Int32).toNatClampNeg (0 : Int32)) (2 : Int32).toNatClampNeg (1 : Int32)) (3 : Int32).toNatClampNeg (0 : Int32)) (4 : Int32).toNatClampNeg (1 : Int32)) (5 : Int32).toNatClampNeg (0 : Int32)) (6 : Int32).toNatClampNeg (0 : Int32)) (7 : Int32).toNatClampNeg (1 : Int32)) (8 : Int32).toNatClampNeg (0 : Int32)) (9 : Int32).toNatClampNeg (0 : Int32))))], [(a_n56, .inl (tt 0, 15, .inl (upd (upd (upd (upd (upd (upd (upd (upd (upd (fun _ => (0 : Int32)) (0 : Int32).toNatClampNeg (1 : Int32)) (1 : Int32).toNatClampNeg (0 : Int32)) (2 : Int32).toNatClampNeg (2 : Int32)) (3 : Int32).toNatClampNeg (0 : Int32)) (4 : Int32).toNatClampNeg (2 : Int32)) (5 : Int32).toNatClampNeg (1 : Int32)) (6 : Int32).toNatClampNeg (0 : Int32)) (7 : Int32).toNatClampNeg (1 : Int32)) (8 : Int32).toNatClampNeg (0 : Int32))))]]) := hD
  refine lv_dup hx hb dL_firstRules_97 rfl ?_
  refine lv_bipush (v := (9 : Int32)) hx hb dL_firstRules_98 (by decide) ?_
  refine lv_iconst (v := (0 : Int32)) hx hb dL_firstRules_100 (by decide) ?_
  obtain ⟨h_101, hF⟩ := z_in hF
  obtain ⟨k_101, hk_101, hs_101⟩ := zS_one hP 4 rfl
  refine va_iast hx hb hK hP hD hS k_101 0 hk_101 rfl h_101 dL_firstRules_101 (fun H locs hP hD hS => ?_)
  rw [hs_101] at hP hD
  have hP : va_P G vwCl (zW [[(aT, .inr (12, [.ref aCol, .int vTa, .ref aFa, .ref aRu, .int (2 : Int32), .ref aRo, .ref aLa, .ref aVa]))], [(aRu, .inl (tt 5, 5, .inr (.inr (.inr (.inr (fun j => some (eRu j)))))))], (wA eRu (tt 0) 5 25 vRu), [(a_n7, .inl (tt 0, 10, .inl (upd (upd (upd (upd (upd (upd (upd (upd (upd (upd (fun _ => (0 : Int32)) (0 : Int32).toNatClampNeg (1 : Int32)) (1 : Int32).toNatClampNeg (0 : Int32)) (2 : Int32).toNatClampNeg (1 : Int32)) (3 : Int32).toNatClampNeg (0 : Int32)) (4 : Int32).toNatClampNeg (1 : Int32)) (5 : Int32).toNatClampNeg (0 : Int32)) (6 : Int32).toNatClampNeg (0 : Int32)) (7 : Int32).toNatClampNeg (1 : Int32)) (8 : Int32).toNatClampNeg (0 : Int32)) (9 : Int32).toNatClampNeg (0 : Int32))))], [(a_n56, .inl (tt 0, 15, .inl (upd (upd (upd (upd (upd (upd (upd (upd (upd (upd (fun _ => (0 : Int32)) (0 : Int32).toNatClampNeg (1 : Int32)) (1 : Int32).toNatClampNeg (0 : Int32)) (2 : Int32).toNatClampNeg (2 : Int32)) (3 : Int32).toNatClampNeg (0 : Int32)) (4 : Int32).toNatClampNeg (2 : Int32)) (5 : Int32).toNatClampNeg (1 : Int32)) (6 : Int32).toNatClampNeg (0 : Int32)) (7 : Int32).toNatClampNeg (1 : Int32)) (8 : Int32).toNatClampNeg (0 : Int32)) (9 : Int32).toNatClampNeg (0 : Int32))))]]) H := hP
  have hD : va_D A (zW [[(aT, .inr (12, [.ref aCol, .int vTa, .ref aFa, .ref aRu, .int (2 : Int32), .ref aRo, .ref aLa, .ref aVa]))], [(aRu, .inl (tt 5, 5, .inr (.inr (.inr (.inr (fun j => some (eRu j)))))))], (wA eRu (tt 0) 5 25 vRu), [(a_n7, .inl (tt 0, 10, .inl (upd (upd (upd (upd (upd (upd (upd (upd (upd (upd (fun _ => (0 : Int32)) (0 : Int32).toNatClampNeg (1 : Int32)) (1 : Int32).toNatClampNeg (0 : Int32)) (2 : Int32).toNatClampNeg (1 : Int32)) (3 : Int32).toNatClampNeg (0 : Int32)) (4 : Int32).toNatClampNeg (1 : Int32)) (5 : Int32).toNatClampNeg (0 : Int32)) (6 : Int32).toNatClampNeg (0 : Int32)) (7 : Int32).toNatClampNeg (1 : Int32)) (8 : Int32).toNatClampNeg (0 : Int32)) (9 : Int32).toNatClampNeg (0 : Int32))))], [(a_n56, .inl (tt 0, 15, .inl (upd (upd (upd (upd (upd (upd (upd (upd (upd (upd (fun _ => (0 : Int32)) (0 : Int32).toNatClampNeg (1 : Int32)) (1 : Int32).toNatClampNeg (0 : Int32)) (2 : Int32).toNatClampNeg (2 : Int32)) (3 : Int32).toNatClampNeg (0 : Int32)) (4 : Int32).toNatClampNeg (2 : Int32)) (5 : Int32).toNatClampNeg (1 : Int32)) (6 : Int32).toNatClampNeg (0 : Int32)) (7 : Int32).toNatClampNeg (1 : Int32)) (8 : Int32).toNatClampNeg (0 : Int32)) (9 : Int32).toNatClampNeg (0 : Int32))))]]) := hD
  refine lv_dup hx hb dL_firstRules_102 rfl ?_
  refine lv_bipush (v := (10 : Int32)) hx hb dL_firstRules_103 (by decide) ?_
  refine lv_iconst (v := (0 : Int32)) hx hb dL_firstRules_105 (by decide) ?_
  obtain ⟨h_106, hF⟩ := z_in hF
  obtain ⟨k_106, hk_106, hs_106⟩ := zS_one hP 4 rfl
  refine va_iast hx hb hK hP hD hS k_106 0 hk_106 rfl h_106 dL_firstRules_106 (fun H locs hP hD hS => ?_)
  rw [hs_106] at hP hD
  have hP : va_P G vwCl (zW [[(aT, .inr (12, [.ref aCol, .int vTa, .ref aFa, .ref aRu, .int (2 : Int32), .ref aRo, .ref aLa, .ref aVa]))], [(aRu, .inl (tt 5, 5, .inr (.inr (.inr (.inr (fun j => some (eRu j)))))))], (wA eRu (tt 0) 5 25 vRu), [(a_n7, .inl (tt 0, 10, .inl (upd (upd (upd (upd (upd (upd (upd (upd (upd (upd (fun _ => (0 : Int32)) (0 : Int32).toNatClampNeg (1 : Int32)) (1 : Int32).toNatClampNeg (0 : Int32)) (2 : Int32).toNatClampNeg (1 : Int32)) (3 : Int32).toNatClampNeg (0 : Int32)) (4 : Int32).toNatClampNeg (1 : Int32)) (5 : Int32).toNatClampNeg (0 : Int32)) (6 : Int32).toNatClampNeg (0 : Int32)) (7 : Int32).toNatClampNeg (1 : Int32)) (8 : Int32).toNatClampNeg (0 : Int32)) (9 : Int32).toNatClampNeg (0 : Int32))))], [(a_n56, .inl (tt 0, 15, .inl (upd (upd (upd (upd (upd (upd (upd (upd (upd (upd (upd (fun _ => (0 : Int32)) (0 : Int32).toNatClampNeg (1 : Int32)) (1 : Int32).toNatClampNeg (0 : Int32)) (2 : Int32).toNatClampNeg (2 : Int32)) (3 : Int32).toNatClampNeg (0 : Int32)) (4 : Int32).toNatClampNeg (2 : Int32)) (5 : Int32).toNatClampNeg (1 : Int32)) (6 : Int32).toNatClampNeg (0 : Int32)) (7 : Int32).toNatClampNeg (1 : Int32)) (8 : Int32).toNatClampNeg (0 : Int32)) (9 : Int32).toNatClampNeg (0 : Int32)) (10 : Int32).toNatClampNeg (0 : Int32))))]]) H := hP
  have hD : va_D A (zW [[(aT, .inr (12, [.ref aCol, .int vTa, .ref aFa, .ref aRu, .int (2 : Int32), .ref aRo, .ref aLa, .ref aVa]))], [(aRu, .inl (tt 5, 5, .inr (.inr (.inr (.inr (fun j => some (eRu j)))))))], (wA eRu (tt 0) 5 25 vRu), [(a_n7, .inl (tt 0, 10, .inl (upd (upd (upd (upd (upd (upd (upd (upd (upd (upd (fun _ => (0 : Int32)) (0 : Int32).toNatClampNeg (1 : Int32)) (1 : Int32).toNatClampNeg (0 : Int32)) (2 : Int32).toNatClampNeg (1 : Int32)) (3 : Int32).toNatClampNeg (0 : Int32)) (4 : Int32).toNatClampNeg (1 : Int32)) (5 : Int32).toNatClampNeg (0 : Int32)) (6 : Int32).toNatClampNeg (0 : Int32)) (7 : Int32).toNatClampNeg (1 : Int32)) (8 : Int32).toNatClampNeg (0 : Int32)) (9 : Int32).toNatClampNeg (0 : Int32))))], [(a_n56, .inl (tt 0, 15, .inl (upd (upd (upd (upd (upd (upd (upd (upd (upd (upd (upd (fun _ => (0 : Int32)) (0 : Int32).toNatClampNeg (1 : Int32)) (1 : Int32).toNatClampNeg (0 : Int32)) (2 : Int32).toNatClampNeg (2 : Int32)) (3 : Int32).toNatClampNeg (0 : Int32)) (4 : Int32).toNatClampNeg (2 : Int32)) (5 : Int32).toNatClampNeg (1 : Int32)) (6 : Int32).toNatClampNeg (0 : Int32)) (7 : Int32).toNatClampNeg (1 : Int32)) (8 : Int32).toNatClampNeg (0 : Int32)) (9 : Int32).toNatClampNeg (0 : Int32)) (10 : Int32).toNatClampNeg (0 : Int32))))]]) := hD
  refine lv_dup hx hb dL_firstRules_107 rfl ?_
  refine lv_bipush (v := (11 : Int32)) hx hb dL_firstRules_108 (by decide) ?_
  refine lv_iconst (v := (1 : Int32)) hx hb dL_firstRules_110 (by decide) ?_
  obtain ⟨h_111, hF⟩ := z_in hF
  obtain ⟨k_111, hk_111, hs_111⟩ := zS_one hP 4 rfl
  refine va_iast hx hb hK hP hD hS k_111 0 hk_111 rfl h_111 dL_firstRules_111 (fun H locs hP hD hS => ?_)
  rw [hs_111] at hP hD
  have hP : va_P G vwCl (zW [[(aT, .inr (12, [.ref aCol, .int vTa, .ref aFa, .ref aRu, .int (2 : Int32), .ref aRo, .ref aLa, .ref aVa]))], [(aRu, .inl (tt 5, 5, .inr (.inr (.inr (.inr (fun j => some (eRu j)))))))], (wA eRu (tt 0) 5 25 vRu), [(a_n7, .inl (tt 0, 10, .inl (upd (upd (upd (upd (upd (upd (upd (upd (upd (upd (fun _ => (0 : Int32)) (0 : Int32).toNatClampNeg (1 : Int32)) (1 : Int32).toNatClampNeg (0 : Int32)) (2 : Int32).toNatClampNeg (1 : Int32)) (3 : Int32).toNatClampNeg (0 : Int32)) (4 : Int32).toNatClampNeg (1 : Int32)) (5 : Int32).toNatClampNeg (0 : Int32)) (6 : Int32).toNatClampNeg (0 : Int32)) (7 : Int32).toNatClampNeg (1 : Int32)) (8 : Int32).toNatClampNeg (0 : Int32)) (9 : Int32).toNatClampNeg (0 : Int32))))], [(a_n56, .inl (tt 0, 15, .inl (upd (upd (upd (upd (upd (upd (upd (upd (upd (upd (upd (upd (fun _ => (0 : Int32)) (0 : Int32).toNatClampNeg (1 : Int32)) (1 : Int32).toNatClampNeg (0 : Int32)) (2 : Int32).toNatClampNeg (2 : Int32)) (3 : Int32).toNatClampNeg (0 : Int32)) (4 : Int32).toNatClampNeg (2 : Int32)) (5 : Int32).toNatClampNeg (1 : Int32)) (6 : Int32).toNatClampNeg (0 : Int32)) (7 : Int32).toNatClampNeg (1 : Int32)) (8 : Int32).toNatClampNeg (0 : Int32)) (9 : Int32).toNatClampNeg (0 : Int32)) (10 : Int32).toNatClampNeg (0 : Int32)) (11 : Int32).toNatClampNeg (1 : Int32))))]]) H := hP
  have hD : va_D A (zW [[(aT, .inr (12, [.ref aCol, .int vTa, .ref aFa, .ref aRu, .int (2 : Int32), .ref aRo, .ref aLa, .ref aVa]))], [(aRu, .inl (tt 5, 5, .inr (.inr (.inr (.inr (fun j => some (eRu j)))))))], (wA eRu (tt 0) 5 25 vRu), [(a_n7, .inl (tt 0, 10, .inl (upd (upd (upd (upd (upd (upd (upd (upd (upd (upd (fun _ => (0 : Int32)) (0 : Int32).toNatClampNeg (1 : Int32)) (1 : Int32).toNatClampNeg (0 : Int32)) (2 : Int32).toNatClampNeg (1 : Int32)) (3 : Int32).toNatClampNeg (0 : Int32)) (4 : Int32).toNatClampNeg (1 : Int32)) (5 : Int32).toNatClampNeg (0 : Int32)) (6 : Int32).toNatClampNeg (0 : Int32)) (7 : Int32).toNatClampNeg (1 : Int32)) (8 : Int32).toNatClampNeg (0 : Int32)) (9 : Int32).toNatClampNeg (0 : Int32))))], [(a_n56, .inl (tt 0, 15, .inl (upd (upd (upd (upd (upd (upd (upd (upd (upd (upd (upd (upd (fun _ => (0 : Int32)) (0 : Int32).toNatClampNeg (1 : Int32)) (1 : Int32).toNatClampNeg (0 : Int32)) (2 : Int32).toNatClampNeg (2 : Int32)) (3 : Int32).toNatClampNeg (0 : Int32)) (4 : Int32).toNatClampNeg (2 : Int32)) (5 : Int32).toNatClampNeg (1 : Int32)) (6 : Int32).toNatClampNeg (0 : Int32)) (7 : Int32).toNatClampNeg (1 : Int32)) (8 : Int32).toNatClampNeg (0 : Int32)) (9 : Int32).toNatClampNeg (0 : Int32)) (10 : Int32).toNatClampNeg (0 : Int32)) (11 : Int32).toNatClampNeg (1 : Int32))))]]) := hD
  refine lv_dup hx hb dL_firstRules_112 rfl ?_
  refine lv_bipush (v := (12 : Int32)) hx hb dL_firstRules_113 (by decide) ?_
  refine lv_iconst (v := (2 : Int32)) hx hb dL_firstRules_115 (by decide) ?_
  obtain ⟨h_116, hF⟩ := z_in hF
  obtain ⟨k_116, hk_116, hs_116⟩ := zS_one hP 4 rfl
  refine va_iast hx hb hK hP hD hS k_116 0 hk_116 rfl h_116 dL_firstRules_116 (fun H locs hP hD hS => ?_)
  rw [hs_116] at hP hD
  have hP : va_P G vwCl (zW [[(aT, .inr (12, [.ref aCol, .int vTa, .ref aFa, .ref aRu, .int (2 : Int32), .ref aRo, .ref aLa, .ref aVa]))], [(aRu, .inl (tt 5, 5, .inr (.inr (.inr (.inr (fun j => some (eRu j)))))))], (wA eRu (tt 0) 5 25 vRu), [(a_n7, .inl (tt 0, 10, .inl (upd (upd (upd (upd (upd (upd (upd (upd (upd (upd (fun _ => (0 : Int32)) (0 : Int32).toNatClampNeg (1 : Int32)) (1 : Int32).toNatClampNeg (0 : Int32)) (2 : Int32).toNatClampNeg (1 : Int32)) (3 : Int32).toNatClampNeg (0 : Int32)) (4 : Int32).toNatClampNeg (1 : Int32)) (5 : Int32).toNatClampNeg (0 : Int32)) (6 : Int32).toNatClampNeg (0 : Int32)) (7 : Int32).toNatClampNeg (1 : Int32)) (8 : Int32).toNatClampNeg (0 : Int32)) (9 : Int32).toNatClampNeg (0 : Int32))))], [(a_n56, .inl (tt 0, 15, .inl (upd (upd (upd (upd (upd (upd (upd (upd (upd (upd (upd (upd (upd (fun _ => (0 : Int32)) (0 : Int32).toNatClampNeg (1 : Int32)) (1 : Int32).toNatClampNeg (0 : Int32)) (2 : Int32).toNatClampNeg (2 : Int32)) (3 : Int32).toNatClampNeg (0 : Int32)) (4 : Int32).toNatClampNeg (2 : Int32)) (5 : Int32).toNatClampNeg (1 : Int32)) (6 : Int32).toNatClampNeg (0 : Int32)) (7 : Int32).toNatClampNeg (1 : Int32)) (8 : Int32).toNatClampNeg (0 : Int32)) (9 : Int32).toNatClampNeg (0 : Int32)) (10 : Int32).toNatClampNeg (0 : Int32)) (11 : Int32).toNatClampNeg (1 : Int32)) (12 : Int32).toNatClampNeg (2 : Int32))))]]) H := hP
  have hD : va_D A (zW [[(aT, .inr (12, [.ref aCol, .int vTa, .ref aFa, .ref aRu, .int (2 : Int32), .ref aRo, .ref aLa, .ref aVa]))], [(aRu, .inl (tt 5, 5, .inr (.inr (.inr (.inr (fun j => some (eRu j)))))))], (wA eRu (tt 0) 5 25 vRu), [(a_n7, .inl (tt 0, 10, .inl (upd (upd (upd (upd (upd (upd (upd (upd (upd (upd (fun _ => (0 : Int32)) (0 : Int32).toNatClampNeg (1 : Int32)) (1 : Int32).toNatClampNeg (0 : Int32)) (2 : Int32).toNatClampNeg (1 : Int32)) (3 : Int32).toNatClampNeg (0 : Int32)) (4 : Int32).toNatClampNeg (1 : Int32)) (5 : Int32).toNatClampNeg (0 : Int32)) (6 : Int32).toNatClampNeg (0 : Int32)) (7 : Int32).toNatClampNeg (1 : Int32)) (8 : Int32).toNatClampNeg (0 : Int32)) (9 : Int32).toNatClampNeg (0 : Int32))))], [(a_n56, .inl (tt 0, 15, .inl (upd (upd (upd (upd (upd (upd (upd (upd (upd (upd (upd (upd (upd (fun _ => (0 : Int32)) (0 : Int32).toNatClampNeg (1 : Int32)) (1 : Int32).toNatClampNeg (0 : Int32)) (2 : Int32).toNatClampNeg (2 : Int32)) (3 : Int32).toNatClampNeg (0 : Int32)) (4 : Int32).toNatClampNeg (2 : Int32)) (5 : Int32).toNatClampNeg (1 : Int32)) (6 : Int32).toNatClampNeg (0 : Int32)) (7 : Int32).toNatClampNeg (1 : Int32)) (8 : Int32).toNatClampNeg (0 : Int32)) (9 : Int32).toNatClampNeg (0 : Int32)) (10 : Int32).toNatClampNeg (0 : Int32)) (11 : Int32).toNatClampNeg (1 : Int32)) (12 : Int32).toNatClampNeg (2 : Int32))))]]) := hD
  refine lv_dup hx hb dL_firstRules_117 rfl ?_
  refine lv_bipush (v := (13 : Int32)) hx hb dL_firstRules_118 (by decide) ?_
  refine lv_iconst (v := (0 : Int32)) hx hb dL_firstRules_120 (by decide) ?_
  obtain ⟨h_121, hF⟩ := z_in hF
  obtain ⟨k_121, hk_121, hs_121⟩ := zS_one hP 4 rfl
  refine va_iast hx hb hK hP hD hS k_121 0 hk_121 rfl h_121 dL_firstRules_121 (fun H locs hP hD hS => ?_)
  rw [hs_121] at hP hD
  have hP : va_P G vwCl (zW [[(aT, .inr (12, [.ref aCol, .int vTa, .ref aFa, .ref aRu, .int (2 : Int32), .ref aRo, .ref aLa, .ref aVa]))], [(aRu, .inl (tt 5, 5, .inr (.inr (.inr (.inr (fun j => some (eRu j)))))))], (wA eRu (tt 0) 5 25 vRu), [(a_n7, .inl (tt 0, 10, .inl (upd (upd (upd (upd (upd (upd (upd (upd (upd (upd (fun _ => (0 : Int32)) (0 : Int32).toNatClampNeg (1 : Int32)) (1 : Int32).toNatClampNeg (0 : Int32)) (2 : Int32).toNatClampNeg (1 : Int32)) (3 : Int32).toNatClampNeg (0 : Int32)) (4 : Int32).toNatClampNeg (1 : Int32)) (5 : Int32).toNatClampNeg (0 : Int32)) (6 : Int32).toNatClampNeg (0 : Int32)) (7 : Int32).toNatClampNeg (1 : Int32)) (8 : Int32).toNatClampNeg (0 : Int32)) (9 : Int32).toNatClampNeg (0 : Int32))))], [(a_n56, .inl (tt 0, 15, .inl (upd (upd (upd (upd (upd (upd (upd (upd (upd (upd (upd (upd (upd (upd (fun _ => (0 : Int32)) (0 : Int32).toNatClampNeg (1 : Int32)) (1 : Int32).toNatClampNeg (0 : Int32)) (2 : Int32).toNatClampNeg (2 : Int32)) (3 : Int32).toNatClampNeg (0 : Int32)) (4 : Int32).toNatClampNeg (2 : Int32)) (5 : Int32).toNatClampNeg (1 : Int32)) (6 : Int32).toNatClampNeg (0 : Int32)) (7 : Int32).toNatClampNeg (1 : Int32)) (8 : Int32).toNatClampNeg (0 : Int32)) (9 : Int32).toNatClampNeg (0 : Int32)) (10 : Int32).toNatClampNeg (0 : Int32)) (11 : Int32).toNatClampNeg (1 : Int32)) (12 : Int32).toNatClampNeg (2 : Int32)) (13 : Int32).toNatClampNeg (0 : Int32))))]]) H := hP
  have hD : va_D A (zW [[(aT, .inr (12, [.ref aCol, .int vTa, .ref aFa, .ref aRu, .int (2 : Int32), .ref aRo, .ref aLa, .ref aVa]))], [(aRu, .inl (tt 5, 5, .inr (.inr (.inr (.inr (fun j => some (eRu j)))))))], (wA eRu (tt 0) 5 25 vRu), [(a_n7, .inl (tt 0, 10, .inl (upd (upd (upd (upd (upd (upd (upd (upd (upd (upd (fun _ => (0 : Int32)) (0 : Int32).toNatClampNeg (1 : Int32)) (1 : Int32).toNatClampNeg (0 : Int32)) (2 : Int32).toNatClampNeg (1 : Int32)) (3 : Int32).toNatClampNeg (0 : Int32)) (4 : Int32).toNatClampNeg (1 : Int32)) (5 : Int32).toNatClampNeg (0 : Int32)) (6 : Int32).toNatClampNeg (0 : Int32)) (7 : Int32).toNatClampNeg (1 : Int32)) (8 : Int32).toNatClampNeg (0 : Int32)) (9 : Int32).toNatClampNeg (0 : Int32))))], [(a_n56, .inl (tt 0, 15, .inl (upd (upd (upd (upd (upd (upd (upd (upd (upd (upd (upd (upd (upd (upd (fun _ => (0 : Int32)) (0 : Int32).toNatClampNeg (1 : Int32)) (1 : Int32).toNatClampNeg (0 : Int32)) (2 : Int32).toNatClampNeg (2 : Int32)) (3 : Int32).toNatClampNeg (0 : Int32)) (4 : Int32).toNatClampNeg (2 : Int32)) (5 : Int32).toNatClampNeg (1 : Int32)) (6 : Int32).toNatClampNeg (0 : Int32)) (7 : Int32).toNatClampNeg (1 : Int32)) (8 : Int32).toNatClampNeg (0 : Int32)) (9 : Int32).toNatClampNeg (0 : Int32)) (10 : Int32).toNatClampNeg (0 : Int32)) (11 : Int32).toNatClampNeg (1 : Int32)) (12 : Int32).toNatClampNeg (2 : Int32)) (13 : Int32).toNatClampNeg (0 : Int32))))]]) := hD
  refine lv_dup hx hb dL_firstRules_122 rfl ?_
  refine lv_bipush (v := (14 : Int32)) hx hb dL_firstRules_123 (by decide) ?_
  refine lv_iconst (v := (0 : Int32)) hx hb dL_firstRules_125 (by decide) ?_
  obtain ⟨h_126, hF⟩ := z_in hF
  obtain ⟨k_126, hk_126, hs_126⟩ := zS_one hP 4 rfl
  refine va_iast hx hb hK hP hD hS k_126 0 hk_126 rfl h_126 dL_firstRules_126 (fun H locs hP hD hS => ?_)
  rw [hs_126] at hP hD
  have hP : va_P G vwCl (zW [[(aT, .inr (12, [.ref aCol, .int vTa, .ref aFa, .ref aRu, .int (2 : Int32), .ref aRo, .ref aLa, .ref aVa]))], [(aRu, .inl (tt 5, 5, .inr (.inr (.inr (.inr (fun j => some (eRu j)))))))], (wA eRu (tt 0) 5 25 vRu), [(a_n7, .inl (tt 0, 10, .inl (upd (upd (upd (upd (upd (upd (upd (upd (upd (upd (fun _ => (0 : Int32)) (0 : Int32).toNatClampNeg (1 : Int32)) (1 : Int32).toNatClampNeg (0 : Int32)) (2 : Int32).toNatClampNeg (1 : Int32)) (3 : Int32).toNatClampNeg (0 : Int32)) (4 : Int32).toNatClampNeg (1 : Int32)) (5 : Int32).toNatClampNeg (0 : Int32)) (6 : Int32).toNatClampNeg (0 : Int32)) (7 : Int32).toNatClampNeg (1 : Int32)) (8 : Int32).toNatClampNeg (0 : Int32)) (9 : Int32).toNatClampNeg (0 : Int32))))], [(a_n56, .inl (tt 0, 15, .inl (upd (upd (upd (upd (upd (upd (upd (upd (upd (upd (upd (upd (upd (upd (upd (fun _ => (0 : Int32)) (0 : Int32).toNatClampNeg (1 : Int32)) (1 : Int32).toNatClampNeg (0 : Int32)) (2 : Int32).toNatClampNeg (2 : Int32)) (3 : Int32).toNatClampNeg (0 : Int32)) (4 : Int32).toNatClampNeg (2 : Int32)) (5 : Int32).toNatClampNeg (1 : Int32)) (6 : Int32).toNatClampNeg (0 : Int32)) (7 : Int32).toNatClampNeg (1 : Int32)) (8 : Int32).toNatClampNeg (0 : Int32)) (9 : Int32).toNatClampNeg (0 : Int32)) (10 : Int32).toNatClampNeg (0 : Int32)) (11 : Int32).toNatClampNeg (1 : Int32)) (12 : Int32).toNatClampNeg (2 : Int32)) (13 : Int32).toNatClampNeg (0 : Int32)) (14 : Int32).toNatClampNeg (0 : Int32))))]]) H := hP
  have hD : va_D A (zW [[(aT, .inr (12, [.ref aCol, .int vTa, .ref aFa, .ref aRu, .int (2 : Int32), .ref aRo, .ref aLa, .ref aVa]))], [(aRu, .inl (tt 5, 5, .inr (.inr (.inr (.inr (fun j => some (eRu j)))))))], (wA eRu (tt 0) 5 25 vRu), [(a_n7, .inl (tt 0, 10, .inl (upd (upd (upd (upd (upd (upd (upd (upd (upd (upd (fun _ => (0 : Int32)) (0 : Int32).toNatClampNeg (1 : Int32)) (1 : Int32).toNatClampNeg (0 : Int32)) (2 : Int32).toNatClampNeg (1 : Int32)) (3 : Int32).toNatClampNeg (0 : Int32)) (4 : Int32).toNatClampNeg (1 : Int32)) (5 : Int32).toNatClampNeg (0 : Int32)) (6 : Int32).toNatClampNeg (0 : Int32)) (7 : Int32).toNatClampNeg (1 : Int32)) (8 : Int32).toNatClampNeg (0 : Int32)) (9 : Int32).toNatClampNeg (0 : Int32))))], [(a_n56, .inl (tt 0, 15, .inl (upd (upd (upd (upd (upd (upd (upd (upd (upd (upd (upd (upd (upd (upd (upd (fun _ => (0 : Int32)) (0 : Int32).toNatClampNeg (1 : Int32)) (1 : Int32).toNatClampNeg (0 : Int32)) (2 : Int32).toNatClampNeg (2 : Int32)) (3 : Int32).toNatClampNeg (0 : Int32)) (4 : Int32).toNatClampNeg (2 : Int32)) (5 : Int32).toNatClampNeg (1 : Int32)) (6 : Int32).toNatClampNeg (0 : Int32)) (7 : Int32).toNatClampNeg (1 : Int32)) (8 : Int32).toNatClampNeg (0 : Int32)) (9 : Int32).toNatClampNeg (0 : Int32)) (10 : Int32).toNatClampNeg (0 : Int32)) (11 : Int32).toNatClampNeg (1 : Int32)) (12 : Int32).toNatClampNeg (2 : Int32)) (13 : Int32).toNatClampNeg (0 : Int32)) (14 : Int32).toNatClampNeg (0 : Int32))))]]) := hD
  refine lv_astore_n (lv' := [(2, .ref a_n56), (1, .ref a_n7), (0, .ref aT)]) hx hb dL_firstRules_127 rfl hl (by decide) rfl (fun ls hl => ?_)
  refine lv_aload_n hx hb dL_firstRules_128 rfl (lv_at hl 1 rfl) ?_
  refine lv_iconst (v := (0 : Int32)) hx hb dL_firstRules_129 (by decide) ?_
  refine lv_aload_n hx hb dL_firstRules_130 rfl (lv_at hl 2 rfl) ?_
  obtain ⟨k_131, hk_131, hs_131⟩ := zS_one hP 0 rfl
  refine va_get (D := G) (ci := 12) (v := .ref aRu) (C := RX13) (T := TX13) (N := 8) hx hb hts hiX13 hown hK hP k_131 hk_131 rfl 3 (by decide) (hts (.fieldLink RL 71 "LeapTablesLaw$Told" "rules" "[[I") (List.mem_of_getElem? (i := 3) rfl)) (fun _ h9 => h9) rfl dL_firstRules_131 ?_
  refine lv_iconst (v := (0 : Int32)) hx hb dL_firstRules_134 (by decide) ?_
  obtain ⟨h_135, hF⟩ := z_in hF
  obtain ⟨k_135, hk_135, hs_135⟩ := zS_one hP 1 rfl
  refine zA_aald (f := eRu) hx hb hK hP k_135 5 hk_135 rfl h_135 dL_firstRules_135 ?_
  refine lv_iconst (v := (0 : Int32)) hx hb dL_firstRules_136 (by decide) ?_
  refine lv_bipush (v := (10 : Int32)) hx hb dL_firstRules_137 (by decide) ?_
  obtain ⟨hcp_139, hF⟩ := z_ite hF
  obtain ⟨ks_139, hks_139, hss_139⟩ := zS_one hP 3 rfl
  obtain ⟨kd_139, hkd_139, hsd_139⟩ := zS_fam hP 2 rfl (zlt_of h_135)
  refine va_copyi hx hb (hml.trans hl.1.symm) hown (hts (.methodLink RL 75 arraycopyName) (List.mem_of_getElem? (i := 4) rfl)) (hts (.native arraycopyName) (List.mem_of_getElem? (i := 5) rfl)) (hts (.static arraycopyName) (List.mem_of_getElem? (i := 6) rfl)) (hts (.initialized "java/lang/System") (List.mem_of_getElem? (i := 7) rfl)) hK hP hD hS ks_139 kd_139 0 0 hks_139 hkd_139 rfl rfl rfl (zcp_1 hcp_139) (zcp_2 hcp_139) (zcp_3 hcp_139) (zcp_4 hcp_139) (zcp_5 hcp_139) (fun _ _ => rfl) (Nat.le_of_ble_eq_true rfl) (Nat.le_of_ble_eq_true rfl) dL_firstRules_139 (fun H locs hP hD hS => ?_)
  rw [hsd_139] at hP hD
  have hP : va_P G vwCl (zW [[(aT, .inr (12, [.ref aCol, .int vTa, .ref aFa, .ref aRu, .int (2 : Int32), .ref aRo, .ref aLa, .ref aVa]))], [(aRu, .inl (tt 5, 5, .inr (.inr (.inr (.inr (fun j => some (eRu j)))))))], (wA eRu (tt 0) 5 25 (zup vRu ((0 : Int32).toNatClampNeg) (va_cpy (upd (upd (upd (upd (upd (upd (upd (upd (upd (upd (fun _ => (0 : Int32)) (0 : Int32).toNatClampNeg (1 : Int32)) (1 : Int32).toNatClampNeg (0 : Int32)) (2 : Int32).toNatClampNeg (1 : Int32)) (3 : Int32).toNatClampNeg (0 : Int32)) (4 : Int32).toNatClampNeg (1 : Int32)) (5 : Int32).toNatClampNeg (0 : Int32)) (6 : Int32).toNatClampNeg (0 : Int32)) (7 : Int32).toNatClampNeg (1 : Int32)) (8 : Int32).toNatClampNeg (0 : Int32)) (9 : Int32).toNatClampNeg (0 : Int32)) (vRu ((0 : Int32).toNatClampNeg)) (0 : Int32).toNatClampNeg (0 : Int32).toNatClampNeg (10 : Int32).toNatClampNeg))), [(a_n7, .inl (tt 0, 10, .inl (upd (upd (upd (upd (upd (upd (upd (upd (upd (upd (fun _ => (0 : Int32)) (0 : Int32).toNatClampNeg (1 : Int32)) (1 : Int32).toNatClampNeg (0 : Int32)) (2 : Int32).toNatClampNeg (1 : Int32)) (3 : Int32).toNatClampNeg (0 : Int32)) (4 : Int32).toNatClampNeg (1 : Int32)) (5 : Int32).toNatClampNeg (0 : Int32)) (6 : Int32).toNatClampNeg (0 : Int32)) (7 : Int32).toNatClampNeg (1 : Int32)) (8 : Int32).toNatClampNeg (0 : Int32)) (9 : Int32).toNatClampNeg (0 : Int32))))], [(a_n56, .inl (tt 0, 15, .inl (upd (upd (upd (upd (upd (upd (upd (upd (upd (upd (upd (upd (upd (upd (upd (fun _ => (0 : Int32)) (0 : Int32).toNatClampNeg (1 : Int32)) (1 : Int32).toNatClampNeg (0 : Int32)) (2 : Int32).toNatClampNeg (2 : Int32)) (3 : Int32).toNatClampNeg (0 : Int32)) (4 : Int32).toNatClampNeg (2 : Int32)) (5 : Int32).toNatClampNeg (1 : Int32)) (6 : Int32).toNatClampNeg (0 : Int32)) (7 : Int32).toNatClampNeg (1 : Int32)) (8 : Int32).toNatClampNeg (0 : Int32)) (9 : Int32).toNatClampNeg (0 : Int32)) (10 : Int32).toNatClampNeg (0 : Int32)) (11 : Int32).toNatClampNeg (1 : Int32)) (12 : Int32).toNatClampNeg (2 : Int32)) (13 : Int32).toNatClampNeg (0 : Int32)) (14 : Int32).toNatClampNeg (0 : Int32))))]]) H := hP
  have hD : va_D A (zW [[(aT, .inr (12, [.ref aCol, .int vTa, .ref aFa, .ref aRu, .int (2 : Int32), .ref aRo, .ref aLa, .ref aVa]))], [(aRu, .inl (tt 5, 5, .inr (.inr (.inr (.inr (fun j => some (eRu j)))))))], (wA eRu (tt 0) 5 25 (zup vRu ((0 : Int32).toNatClampNeg) (va_cpy (upd (upd (upd (upd (upd (upd (upd (upd (upd (upd (fun _ => (0 : Int32)) (0 : Int32).toNatClampNeg (1 : Int32)) (1 : Int32).toNatClampNeg (0 : Int32)) (2 : Int32).toNatClampNeg (1 : Int32)) (3 : Int32).toNatClampNeg (0 : Int32)) (4 : Int32).toNatClampNeg (1 : Int32)) (5 : Int32).toNatClampNeg (0 : Int32)) (6 : Int32).toNatClampNeg (0 : Int32)) (7 : Int32).toNatClampNeg (1 : Int32)) (8 : Int32).toNatClampNeg (0 : Int32)) (9 : Int32).toNatClampNeg (0 : Int32)) (vRu ((0 : Int32).toNatClampNeg)) (0 : Int32).toNatClampNeg (0 : Int32).toNatClampNeg (10 : Int32).toNatClampNeg))), [(a_n7, .inl (tt 0, 10, .inl (upd (upd (upd (upd (upd (upd (upd (upd (upd (upd (fun _ => (0 : Int32)) (0 : Int32).toNatClampNeg (1 : Int32)) (1 : Int32).toNatClampNeg (0 : Int32)) (2 : Int32).toNatClampNeg (1 : Int32)) (3 : Int32).toNatClampNeg (0 : Int32)) (4 : Int32).toNatClampNeg (1 : Int32)) (5 : Int32).toNatClampNeg (0 : Int32)) (6 : Int32).toNatClampNeg (0 : Int32)) (7 : Int32).toNatClampNeg (1 : Int32)) (8 : Int32).toNatClampNeg (0 : Int32)) (9 : Int32).toNatClampNeg (0 : Int32))))], [(a_n56, .inl (tt 0, 15, .inl (upd (upd (upd (upd (upd (upd (upd (upd (upd (upd (upd (upd (upd (upd (upd (fun _ => (0 : Int32)) (0 : Int32).toNatClampNeg (1 : Int32)) (1 : Int32).toNatClampNeg (0 : Int32)) (2 : Int32).toNatClampNeg (2 : Int32)) (3 : Int32).toNatClampNeg (0 : Int32)) (4 : Int32).toNatClampNeg (2 : Int32)) (5 : Int32).toNatClampNeg (1 : Int32)) (6 : Int32).toNatClampNeg (0 : Int32)) (7 : Int32).toNatClampNeg (1 : Int32)) (8 : Int32).toNatClampNeg (0 : Int32)) (9 : Int32).toNatClampNeg (0 : Int32)) (10 : Int32).toNatClampNeg (0 : Int32)) (11 : Int32).toNatClampNeg (1 : Int32)) (12 : Int32).toNatClampNeg (2 : Int32)) (13 : Int32).toNatClampNeg (0 : Int32)) (14 : Int32).toNatClampNeg (0 : Int32))))]]) := hD
  refine lv_aload_n hx hb dL_firstRules_142 rfl (lv_at hl 0 rfl) ?_
  refine lv_iconst (v := (0 : Int32)) hx hb dL_firstRules_143 (by decide) ?_
  refine lv_aload_n hx hb dL_firstRules_144 rfl (lv_at hl 2 rfl) ?_
  obtain ⟨k_145, hk_145, hs_145⟩ := zS_one hP 0 rfl
  refine va_get (D := G) (ci := 12) (v := .ref aRu) (C := RX13) (T := TX13) (N := 8) hx hb hts hiX13 hown hK hP k_145 hk_145 rfl 3 (by decide) (hts (.fieldLink RL 71 "LeapTablesLaw$Told" "rules" "[[I") (List.mem_of_getElem? (i := 3) rfl)) (fun _ h9 => h9) rfl dL_firstRules_145 ?_
  refine lv_iconst (v := (1 : Int32)) hx hb dL_firstRules_148 (by decide) ?_
  obtain ⟨h_149, hF⟩ := z_in hF
  obtain ⟨k_149, hk_149, hs_149⟩ := zS_one hP 1 rfl
  refine zA_aald (f := eRu) hx hb hK hP k_149 5 hk_149 rfl h_149 dL_firstRules_149 ?_
  refine lv_iconst (v := (0 : Int32)) hx hb dL_firstRules_150 (by decide) ?_
  refine lv_bipush (v := (15 : Int32)) hx hb dL_firstRules_151 (by decide) ?_
  obtain ⟨hcp_153, hF⟩ := z_ite hF
  obtain ⟨ks_153, hks_153, hss_153⟩ := zS_one hP 4 rfl
  obtain ⟨kd_153, hkd_153, hsd_153⟩ := zS_fam hP 2 rfl (zlt_of h_149)
  refine va_copyi hx hb (hml.trans hl.1.symm) hown (hts (.methodLink RL 75 arraycopyName) (List.mem_of_getElem? (i := 4) rfl)) (hts (.native arraycopyName) (List.mem_of_getElem? (i := 5) rfl)) (hts (.static arraycopyName) (List.mem_of_getElem? (i := 6) rfl)) (hts (.initialized "java/lang/System") (List.mem_of_getElem? (i := 7) rfl)) hK hP hD hS ks_153 kd_153 0 0 hks_153 hkd_153 rfl rfl rfl (zcp_1 hcp_153) (zcp_2 hcp_153) (zcp_3 hcp_153) (zcp_4 hcp_153) (zcp_5 hcp_153) (fun _ _ => rfl) (Nat.le_of_ble_eq_true rfl) (Nat.le_of_ble_eq_true rfl) dL_firstRules_153 (fun H locs hP hD hS => ?_)
  rw [hsd_153] at hP hD
  have hP : va_P G vwCl (zW [[(aT, .inr (12, [.ref aCol, .int vTa, .ref aFa, .ref aRu, .int (2 : Int32), .ref aRo, .ref aLa, .ref aVa]))], [(aRu, .inl (tt 5, 5, .inr (.inr (.inr (.inr (fun j => some (eRu j)))))))], (wA eRu (tt 0) 5 25 (zup (zup vRu ((0 : Int32).toNatClampNeg) (va_cpy (upd (upd (upd (upd (upd (upd (upd (upd (upd (upd (fun _ => (0 : Int32)) (0 : Int32).toNatClampNeg (1 : Int32)) (1 : Int32).toNatClampNeg (0 : Int32)) (2 : Int32).toNatClampNeg (1 : Int32)) (3 : Int32).toNatClampNeg (0 : Int32)) (4 : Int32).toNatClampNeg (1 : Int32)) (5 : Int32).toNatClampNeg (0 : Int32)) (6 : Int32).toNatClampNeg (0 : Int32)) (7 : Int32).toNatClampNeg (1 : Int32)) (8 : Int32).toNatClampNeg (0 : Int32)) (9 : Int32).toNatClampNeg (0 : Int32)) (vRu ((0 : Int32).toNatClampNeg)) (0 : Int32).toNatClampNeg (0 : Int32).toNatClampNeg (10 : Int32).toNatClampNeg)) ((1 : Int32).toNatClampNeg) (va_cpy (upd (upd (upd (upd (upd (upd (upd (upd (upd (upd (upd (upd (upd (upd (upd (fun _ => (0 : Int32)) (0 : Int32).toNatClampNeg (1 : Int32)) (1 : Int32).toNatClampNeg (0 : Int32)) (2 : Int32).toNatClampNeg (2 : Int32)) (3 : Int32).toNatClampNeg (0 : Int32)) (4 : Int32).toNatClampNeg (2 : Int32)) (5 : Int32).toNatClampNeg (1 : Int32)) (6 : Int32).toNatClampNeg (0 : Int32)) (7 : Int32).toNatClampNeg (1 : Int32)) (8 : Int32).toNatClampNeg (0 : Int32)) (9 : Int32).toNatClampNeg (0 : Int32)) (10 : Int32).toNatClampNeg (0 : Int32)) (11 : Int32).toNatClampNeg (1 : Int32)) (12 : Int32).toNatClampNeg (2 : Int32)) (13 : Int32).toNatClampNeg (0 : Int32)) (14 : Int32).toNatClampNeg (0 : Int32)) ((zup vRu ((0 : Int32).toNatClampNeg) (va_cpy (upd (upd (upd (upd (upd (upd (upd (upd (upd (upd (fun _ => (0 : Int32)) (0 : Int32).toNatClampNeg (1 : Int32)) (1 : Int32).toNatClampNeg (0 : Int32)) (2 : Int32).toNatClampNeg (1 : Int32)) (3 : Int32).toNatClampNeg (0 : Int32)) (4 : Int32).toNatClampNeg (1 : Int32)) (5 : Int32).toNatClampNeg (0 : Int32)) (6 : Int32).toNatClampNeg (0 : Int32)) (7 : Int32).toNatClampNeg (1 : Int32)) (8 : Int32).toNatClampNeg (0 : Int32)) (9 : Int32).toNatClampNeg (0 : Int32)) (vRu ((0 : Int32).toNatClampNeg)) (0 : Int32).toNatClampNeg (0 : Int32).toNatClampNeg (10 : Int32).toNatClampNeg)) ((1 : Int32).toNatClampNeg)) (0 : Int32).toNatClampNeg (0 : Int32).toNatClampNeg (15 : Int32).toNatClampNeg))), [(a_n7, .inl (tt 0, 10, .inl (upd (upd (upd (upd (upd (upd (upd (upd (upd (upd (fun _ => (0 : Int32)) (0 : Int32).toNatClampNeg (1 : Int32)) (1 : Int32).toNatClampNeg (0 : Int32)) (2 : Int32).toNatClampNeg (1 : Int32)) (3 : Int32).toNatClampNeg (0 : Int32)) (4 : Int32).toNatClampNeg (1 : Int32)) (5 : Int32).toNatClampNeg (0 : Int32)) (6 : Int32).toNatClampNeg (0 : Int32)) (7 : Int32).toNatClampNeg (1 : Int32)) (8 : Int32).toNatClampNeg (0 : Int32)) (9 : Int32).toNatClampNeg (0 : Int32))))], [(a_n56, .inl (tt 0, 15, .inl (upd (upd (upd (upd (upd (upd (upd (upd (upd (upd (upd (upd (upd (upd (upd (fun _ => (0 : Int32)) (0 : Int32).toNatClampNeg (1 : Int32)) (1 : Int32).toNatClampNeg (0 : Int32)) (2 : Int32).toNatClampNeg (2 : Int32)) (3 : Int32).toNatClampNeg (0 : Int32)) (4 : Int32).toNatClampNeg (2 : Int32)) (5 : Int32).toNatClampNeg (1 : Int32)) (6 : Int32).toNatClampNeg (0 : Int32)) (7 : Int32).toNatClampNeg (1 : Int32)) (8 : Int32).toNatClampNeg (0 : Int32)) (9 : Int32).toNatClampNeg (0 : Int32)) (10 : Int32).toNatClampNeg (0 : Int32)) (11 : Int32).toNatClampNeg (1 : Int32)) (12 : Int32).toNatClampNeg (2 : Int32)) (13 : Int32).toNatClampNeg (0 : Int32)) (14 : Int32).toNatClampNeg (0 : Int32))))]]) H := hP
  have hD : va_D A (zW [[(aT, .inr (12, [.ref aCol, .int vTa, .ref aFa, .ref aRu, .int (2 : Int32), .ref aRo, .ref aLa, .ref aVa]))], [(aRu, .inl (tt 5, 5, .inr (.inr (.inr (.inr (fun j => some (eRu j)))))))], (wA eRu (tt 0) 5 25 (zup (zup vRu ((0 : Int32).toNatClampNeg) (va_cpy (upd (upd (upd (upd (upd (upd (upd (upd (upd (upd (fun _ => (0 : Int32)) (0 : Int32).toNatClampNeg (1 : Int32)) (1 : Int32).toNatClampNeg (0 : Int32)) (2 : Int32).toNatClampNeg (1 : Int32)) (3 : Int32).toNatClampNeg (0 : Int32)) (4 : Int32).toNatClampNeg (1 : Int32)) (5 : Int32).toNatClampNeg (0 : Int32)) (6 : Int32).toNatClampNeg (0 : Int32)) (7 : Int32).toNatClampNeg (1 : Int32)) (8 : Int32).toNatClampNeg (0 : Int32)) (9 : Int32).toNatClampNeg (0 : Int32)) (vRu ((0 : Int32).toNatClampNeg)) (0 : Int32).toNatClampNeg (0 : Int32).toNatClampNeg (10 : Int32).toNatClampNeg)) ((1 : Int32).toNatClampNeg) (va_cpy (upd (upd (upd (upd (upd (upd (upd (upd (upd (upd (upd (upd (upd (upd (upd (fun _ => (0 : Int32)) (0 : Int32).toNatClampNeg (1 : Int32)) (1 : Int32).toNatClampNeg (0 : Int32)) (2 : Int32).toNatClampNeg (2 : Int32)) (3 : Int32).toNatClampNeg (0 : Int32)) (4 : Int32).toNatClampNeg (2 : Int32)) (5 : Int32).toNatClampNeg (1 : Int32)) (6 : Int32).toNatClampNeg (0 : Int32)) (7 : Int32).toNatClampNeg (1 : Int32)) (8 : Int32).toNatClampNeg (0 : Int32)) (9 : Int32).toNatClampNeg (0 : Int32)) (10 : Int32).toNatClampNeg (0 : Int32)) (11 : Int32).toNatClampNeg (1 : Int32)) (12 : Int32).toNatClampNeg (2 : Int32)) (13 : Int32).toNatClampNeg (0 : Int32)) (14 : Int32).toNatClampNeg (0 : Int32)) ((zup vRu ((0 : Int32).toNatClampNeg) (va_cpy (upd (upd (upd (upd (upd (upd (upd (upd (upd (upd (fun _ => (0 : Int32)) (0 : Int32).toNatClampNeg (1 : Int32)) (1 : Int32).toNatClampNeg (0 : Int32)) (2 : Int32).toNatClampNeg (1 : Int32)) (3 : Int32).toNatClampNeg (0 : Int32)) (4 : Int32).toNatClampNeg (1 : Int32)) (5 : Int32).toNatClampNeg (0 : Int32)) (6 : Int32).toNatClampNeg (0 : Int32)) (7 : Int32).toNatClampNeg (1 : Int32)) (8 : Int32).toNatClampNeg (0 : Int32)) (9 : Int32).toNatClampNeg (0 : Int32)) (vRu ((0 : Int32).toNatClampNeg)) (0 : Int32).toNatClampNeg (0 : Int32).toNatClampNeg (10 : Int32).toNatClampNeg)) ((1 : Int32).toNatClampNeg)) (0 : Int32).toNatClampNeg (0 : Int32).toNatClampNeg (15 : Int32).toNatClampNeg))), [(a_n7, .inl (tt 0, 10, .inl (upd (upd (upd (upd (upd (upd (upd (upd (upd (upd (fun _ => (0 : Int32)) (0 : Int32).toNatClampNeg (1 : Int32)) (1 : Int32).toNatClampNeg (0 : Int32)) (2 : Int32).toNatClampNeg (1 : Int32)) (3 : Int32).toNatClampNeg (0 : Int32)) (4 : Int32).toNatClampNeg (1 : Int32)) (5 : Int32).toNatClampNeg (0 : Int32)) (6 : Int32).toNatClampNeg (0 : Int32)) (7 : Int32).toNatClampNeg (1 : Int32)) (8 : Int32).toNatClampNeg (0 : Int32)) (9 : Int32).toNatClampNeg (0 : Int32))))], [(a_n56, .inl (tt 0, 15, .inl (upd (upd (upd (upd (upd (upd (upd (upd (upd (upd (upd (upd (upd (upd (upd (fun _ => (0 : Int32)) (0 : Int32).toNatClampNeg (1 : Int32)) (1 : Int32).toNatClampNeg (0 : Int32)) (2 : Int32).toNatClampNeg (2 : Int32)) (3 : Int32).toNatClampNeg (0 : Int32)) (4 : Int32).toNatClampNeg (2 : Int32)) (5 : Int32).toNatClampNeg (1 : Int32)) (6 : Int32).toNatClampNeg (0 : Int32)) (7 : Int32).toNatClampNeg (1 : Int32)) (8 : Int32).toNatClampNeg (0 : Int32)) (9 : Int32).toNatClampNeg (0 : Int32)) (10 : Int32).toNatClampNeg (0 : Int32)) (11 : Int32).toNatClampNeg (1 : Int32)) (12 : Int32).toNatClampNeg (2 : Int32)) (13 : Int32).toNatClampNeg (0 : Int32)) (14 : Int32).toNatClampNeg (0 : Int32))))]]) := hD
  have hp9 : (zW [[(aT, .inr (12, [.ref aCol, .int vTa, .ref aFa, .ref aRu, .int (2 : Int32), .ref aRo, .ref aLa, .ref aVa]))], [(aRu, .inl (tt 5, 5, .inr (.inr (.inr (.inr (fun j => some (eRu j)))))))], (wA eRu (tt 0) 5 25 (zup (zup vRu ((0 : Int32).toNatClampNeg) (va_cpy (upd (upd (upd (upd (upd (upd (upd (upd (upd (upd (fun _ => (0 : Int32)) (0 : Int32).toNatClampNeg (1 : Int32)) (1 : Int32).toNatClampNeg (0 : Int32)) (2 : Int32).toNatClampNeg (1 : Int32)) (3 : Int32).toNatClampNeg (0 : Int32)) (4 : Int32).toNatClampNeg (1 : Int32)) (5 : Int32).toNatClampNeg (0 : Int32)) (6 : Int32).toNatClampNeg (0 : Int32)) (7 : Int32).toNatClampNeg (1 : Int32)) (8 : Int32).toNatClampNeg (0 : Int32)) (9 : Int32).toNatClampNeg (0 : Int32)) (vRu ((0 : Int32).toNatClampNeg)) (0 : Int32).toNatClampNeg (0 : Int32).toNatClampNeg (10 : Int32).toNatClampNeg)) ((1 : Int32).toNatClampNeg) (va_cpy (upd (upd (upd (upd (upd (upd (upd (upd (upd (upd (upd (upd (upd (upd (upd (fun _ => (0 : Int32)) (0 : Int32).toNatClampNeg (1 : Int32)) (1 : Int32).toNatClampNeg (0 : Int32)) (2 : Int32).toNatClampNeg (2 : Int32)) (3 : Int32).toNatClampNeg (0 : Int32)) (4 : Int32).toNatClampNeg (2 : Int32)) (5 : Int32).toNatClampNeg (1 : Int32)) (6 : Int32).toNatClampNeg (0 : Int32)) (7 : Int32).toNatClampNeg (1 : Int32)) (8 : Int32).toNatClampNeg (0 : Int32)) (9 : Int32).toNatClampNeg (0 : Int32)) (10 : Int32).toNatClampNeg (0 : Int32)) (11 : Int32).toNatClampNeg (1 : Int32)) (12 : Int32).toNatClampNeg (2 : Int32)) (13 : Int32).toNatClampNeg (0 : Int32)) (14 : Int32).toNatClampNeg (0 : Int32)) ((zup vRu ((0 : Int32).toNatClampNeg) (va_cpy (upd (upd (upd (upd (upd (upd (upd (upd (upd (upd (fun _ => (0 : Int32)) (0 : Int32).toNatClampNeg (1 : Int32)) (1 : Int32).toNatClampNeg (0 : Int32)) (2 : Int32).toNatClampNeg (1 : Int32)) (3 : Int32).toNatClampNeg (0 : Int32)) (4 : Int32).toNatClampNeg (1 : Int32)) (5 : Int32).toNatClampNeg (0 : Int32)) (6 : Int32).toNatClampNeg (0 : Int32)) (7 : Int32).toNatClampNeg (1 : Int32)) (8 : Int32).toNatClampNeg (0 : Int32)) (9 : Int32).toNatClampNeg (0 : Int32)) (vRu ((0 : Int32).toNatClampNeg)) (0 : Int32).toNatClampNeg (0 : Int32).toNatClampNeg (10 : Int32).toNatClampNeg)) ((1 : Int32).toNatClampNeg)) (0 : Int32).toNatClampNeg (0 : Int32).toNatClampNeg (15 : Int32).toNatClampNeg))), [(a_n7, .inl (tt 0, 10, .inl (upd (upd (upd (upd (upd (upd (upd (upd (upd (upd (fun _ => (0 : Int32)) (0 : Int32).toNatClampNeg (1 : Int32)) (1 : Int32).toNatClampNeg (0 : Int32)) (2 : Int32).toNatClampNeg (1 : Int32)) (3 : Int32).toNatClampNeg (0 : Int32)) (4 : Int32).toNatClampNeg (1 : Int32)) (5 : Int32).toNatClampNeg (0 : Int32)) (6 : Int32).toNatClampNeg (0 : Int32)) (7 : Int32).toNatClampNeg (1 : Int32)) (8 : Int32).toNatClampNeg (0 : Int32)) (9 : Int32).toNatClampNeg (0 : Int32))))], [(a_n56, .inl (tt 0, 15, .inl (upd (upd (upd (upd (upd (upd (upd (upd (upd (upd (upd (upd (upd (upd (upd (fun _ => (0 : Int32)) (0 : Int32).toNatClampNeg (1 : Int32)) (1 : Int32).toNatClampNeg (0 : Int32)) (2 : Int32).toNatClampNeg (2 : Int32)) (3 : Int32).toNatClampNeg (0 : Int32)) (4 : Int32).toNatClampNeg (2 : Int32)) (5 : Int32).toNatClampNeg (1 : Int32)) (6 : Int32).toNatClampNeg (0 : Int32)) (7 : Int32).toNatClampNeg (1 : Int32)) (8 : Int32).toNatClampNeg (0 : Int32)) (9 : Int32).toNatClampNeg (0 : Int32)) (10 : Int32).toNatClampNeg (0 : Int32)) (11 : Int32).toNatClampNeg (1 : Int32)) (12 : Int32).toNatClampNeg (2 : Int32)) (13 : Int32).toNatClampNeg (0 : Int32)) (14 : Int32).toNatClampNeg (0 : Int32))))]]).Perm (zW [[(aT, .inr (12, [.ref aCol, .int vTa, .ref aFa, .ref aRu, .int (2 : Int32), .ref aRo, .ref aLa, .ref aVa]))], [(aRu, .inl (tt 5, 5, .inr (.inr (.inr (.inr (fun j => some (eRu j)))))))], (wA eRu (tt 0) 5 25 (zup (zup vRu ((0 : Int32).toNatClampNeg) (va_cpy (upd (upd (upd (upd (upd (upd (upd (upd (upd (upd (fun _ => (0 : Int32)) (0 : Int32).toNatClampNeg (1 : Int32)) (1 : Int32).toNatClampNeg (0 : Int32)) (2 : Int32).toNatClampNeg (1 : Int32)) (3 : Int32).toNatClampNeg (0 : Int32)) (4 : Int32).toNatClampNeg (1 : Int32)) (5 : Int32).toNatClampNeg (0 : Int32)) (6 : Int32).toNatClampNeg (0 : Int32)) (7 : Int32).toNatClampNeg (1 : Int32)) (8 : Int32).toNatClampNeg (0 : Int32)) (9 : Int32).toNatClampNeg (0 : Int32)) (vRu ((0 : Int32).toNatClampNeg)) (0 : Int32).toNatClampNeg (0 : Int32).toNatClampNeg (10 : Int32).toNatClampNeg)) ((1 : Int32).toNatClampNeg) (va_cpy (upd (upd (upd (upd (upd (upd (upd (upd (upd (upd (upd (upd (upd (upd (upd (fun _ => (0 : Int32)) (0 : Int32).toNatClampNeg (1 : Int32)) (1 : Int32).toNatClampNeg (0 : Int32)) (2 : Int32).toNatClampNeg (2 : Int32)) (3 : Int32).toNatClampNeg (0 : Int32)) (4 : Int32).toNatClampNeg (2 : Int32)) (5 : Int32).toNatClampNeg (1 : Int32)) (6 : Int32).toNatClampNeg (0 : Int32)) (7 : Int32).toNatClampNeg (1 : Int32)) (8 : Int32).toNatClampNeg (0 : Int32)) (9 : Int32).toNatClampNeg (0 : Int32)) (10 : Int32).toNatClampNeg (0 : Int32)) (11 : Int32).toNatClampNeg (1 : Int32)) (12 : Int32).toNatClampNeg (2 : Int32)) (13 : Int32).toNatClampNeg (0 : Int32)) (14 : Int32).toNatClampNeg (0 : Int32)) ((zup vRu ((0 : Int32).toNatClampNeg) (va_cpy (upd (upd (upd (upd (upd (upd (upd (upd (upd (upd (fun _ => (0 : Int32)) (0 : Int32).toNatClampNeg (1 : Int32)) (1 : Int32).toNatClampNeg (0 : Int32)) (2 : Int32).toNatClampNeg (1 : Int32)) (3 : Int32).toNatClampNeg (0 : Int32)) (4 : Int32).toNatClampNeg (1 : Int32)) (5 : Int32).toNatClampNeg (0 : Int32)) (6 : Int32).toNatClampNeg (0 : Int32)) (7 : Int32).toNatClampNeg (1 : Int32)) (8 : Int32).toNatClampNeg (0 : Int32)) (9 : Int32).toNatClampNeg (0 : Int32)) (vRu ((0 : Int32).toNatClampNeg)) (0 : Int32).toNatClampNeg (0 : Int32).toNatClampNeg (10 : Int32).toNatClampNeg)) ((1 : Int32).toNatClampNeg)) (0 : Int32).toNatClampNeg (0 : Int32).toNatClampNeg (15 : Int32).toNatClampNeg)))] ++ zW [[(a_n7, .inl (tt 0, 10, .inl (upd (upd (upd (upd (upd (upd (upd (upd (upd (upd (fun _ => (0 : Int32)) (0 : Int32).toNatClampNeg (1 : Int32)) (1 : Int32).toNatClampNeg (0 : Int32)) (2 : Int32).toNatClampNeg (1 : Int32)) (3 : Int32).toNatClampNeg (0 : Int32)) (4 : Int32).toNatClampNeg (1 : Int32)) (5 : Int32).toNatClampNeg (0 : Int32)) (6 : Int32).toNatClampNeg (0 : Int32)) (7 : Int32).toNatClampNeg (1 : Int32)) (8 : Int32).toNatClampNeg (0 : Int32)) (9 : Int32).toNatClampNeg (0 : Int32))))], [(a_n56, .inl (tt 0, 15, .inl (upd (upd (upd (upd (upd (upd (upd (upd (upd (upd (upd (upd (upd (upd (upd (fun _ => (0 : Int32)) (0 : Int32).toNatClampNeg (1 : Int32)) (1 : Int32).toNatClampNeg (0 : Int32)) (2 : Int32).toNatClampNeg (2 : Int32)) (3 : Int32).toNatClampNeg (0 : Int32)) (4 : Int32).toNatClampNeg (2 : Int32)) (5 : Int32).toNatClampNeg (1 : Int32)) (6 : Int32).toNatClampNeg (0 : Int32)) (7 : Int32).toNatClampNeg (1 : Int32)) (8 : Int32).toNatClampNeg (0 : Int32)) (9 : Int32).toNatClampNeg (0 : Int32)) (10 : Int32).toNatClampNeg (0 : Int32)) (11 : Int32).toNatClampNeg (1 : Int32)) (12 : Int32).toNatClampNeg (2 : Int32)) (13 : Int32).toNatClampNeg (0 : Int32)) (14 : Int32).toNatClampNeg (0 : Int32))))]]) := zS_cut (is := [0, 1, 2]) (js := [3, 4]) 5 rfl rfl rfl (by decide)
  have hP9 : va_P G vwCl (zW [[(aT, .inr (12, [.ref aCol, .int vTa, .ref aFa, .ref aRu, .int (2 : Int32), .ref aRo, .ref aLa, .ref aVa]))], [(aRu, .inl (tt 5, 5, .inr (.inr (.inr (.inr (fun j => some (eRu j)))))))], (wA eRu (tt 0) 5 25 (zup (zup vRu ((0 : Int32).toNatClampNeg) (va_cpy (upd (upd (upd (upd (upd (upd (upd (upd (upd (upd (fun _ => (0 : Int32)) (0 : Int32).toNatClampNeg (1 : Int32)) (1 : Int32).toNatClampNeg (0 : Int32)) (2 : Int32).toNatClampNeg (1 : Int32)) (3 : Int32).toNatClampNeg (0 : Int32)) (4 : Int32).toNatClampNeg (1 : Int32)) (5 : Int32).toNatClampNeg (0 : Int32)) (6 : Int32).toNatClampNeg (0 : Int32)) (7 : Int32).toNatClampNeg (1 : Int32)) (8 : Int32).toNatClampNeg (0 : Int32)) (9 : Int32).toNatClampNeg (0 : Int32)) (vRu ((0 : Int32).toNatClampNeg)) (0 : Int32).toNatClampNeg (0 : Int32).toNatClampNeg (10 : Int32).toNatClampNeg)) ((1 : Int32).toNatClampNeg) (va_cpy (upd (upd (upd (upd (upd (upd (upd (upd (upd (upd (upd (upd (upd (upd (upd (fun _ => (0 : Int32)) (0 : Int32).toNatClampNeg (1 : Int32)) (1 : Int32).toNatClampNeg (0 : Int32)) (2 : Int32).toNatClampNeg (2 : Int32)) (3 : Int32).toNatClampNeg (0 : Int32)) (4 : Int32).toNatClampNeg (2 : Int32)) (5 : Int32).toNatClampNeg (1 : Int32)) (6 : Int32).toNatClampNeg (0 : Int32)) (7 : Int32).toNatClampNeg (1 : Int32)) (8 : Int32).toNatClampNeg (0 : Int32)) (9 : Int32).toNatClampNeg (0 : Int32)) (10 : Int32).toNatClampNeg (0 : Int32)) (11 : Int32).toNatClampNeg (1 : Int32)) (12 : Int32).toNatClampNeg (2 : Int32)) (13 : Int32).toNatClampNeg (0 : Int32)) (14 : Int32).toNatClampNeg (0 : Int32)) ((zup vRu ((0 : Int32).toNatClampNeg) (va_cpy (upd (upd (upd (upd (upd (upd (upd (upd (upd (upd (fun _ => (0 : Int32)) (0 : Int32).toNatClampNeg (1 : Int32)) (1 : Int32).toNatClampNeg (0 : Int32)) (2 : Int32).toNatClampNeg (1 : Int32)) (3 : Int32).toNatClampNeg (0 : Int32)) (4 : Int32).toNatClampNeg (1 : Int32)) (5 : Int32).toNatClampNeg (0 : Int32)) (6 : Int32).toNatClampNeg (0 : Int32)) (7 : Int32).toNatClampNeg (1 : Int32)) (8 : Int32).toNatClampNeg (0 : Int32)) (9 : Int32).toNatClampNeg (0 : Int32)) (vRu ((0 : Int32).toNatClampNeg)) (0 : Int32).toNatClampNeg (0 : Int32).toNatClampNeg (10 : Int32).toNatClampNeg)) ((1 : Int32).toNatClampNeg)) (0 : Int32).toNatClampNeg (0 : Int32).toNatClampNeg (15 : Int32).toNatClampNeg)))]) H := zS_subP hp9 hP
  have hD9 : va_D A (zW [[(aT, .inr (12, [.ref aCol, .int vTa, .ref aFa, .ref aRu, .int (2 : Int32), .ref aRo, .ref aLa, .ref aVa]))], [(aRu, .inl (tt 5, 5, .inr (.inr (.inr (.inr (fun j => some (eRu j)))))))], (wA eRu (tt 0) 5 25 (zup (zup vRu ((0 : Int32).toNatClampNeg) (va_cpy (upd (upd (upd (upd (upd (upd (upd (upd (upd (upd (fun _ => (0 : Int32)) (0 : Int32).toNatClampNeg (1 : Int32)) (1 : Int32).toNatClampNeg (0 : Int32)) (2 : Int32).toNatClampNeg (1 : Int32)) (3 : Int32).toNatClampNeg (0 : Int32)) (4 : Int32).toNatClampNeg (1 : Int32)) (5 : Int32).toNatClampNeg (0 : Int32)) (6 : Int32).toNatClampNeg (0 : Int32)) (7 : Int32).toNatClampNeg (1 : Int32)) (8 : Int32).toNatClampNeg (0 : Int32)) (9 : Int32).toNatClampNeg (0 : Int32)) (vRu ((0 : Int32).toNatClampNeg)) (0 : Int32).toNatClampNeg (0 : Int32).toNatClampNeg (10 : Int32).toNatClampNeg)) ((1 : Int32).toNatClampNeg) (va_cpy (upd (upd (upd (upd (upd (upd (upd (upd (upd (upd (upd (upd (upd (upd (upd (fun _ => (0 : Int32)) (0 : Int32).toNatClampNeg (1 : Int32)) (1 : Int32).toNatClampNeg (0 : Int32)) (2 : Int32).toNatClampNeg (2 : Int32)) (3 : Int32).toNatClampNeg (0 : Int32)) (4 : Int32).toNatClampNeg (2 : Int32)) (5 : Int32).toNatClampNeg (1 : Int32)) (6 : Int32).toNatClampNeg (0 : Int32)) (7 : Int32).toNatClampNeg (1 : Int32)) (8 : Int32).toNatClampNeg (0 : Int32)) (9 : Int32).toNatClampNeg (0 : Int32)) (10 : Int32).toNatClampNeg (0 : Int32)) (11 : Int32).toNatClampNeg (1 : Int32)) (12 : Int32).toNatClampNeg (2 : Int32)) (13 : Int32).toNatClampNeg (0 : Int32)) (14 : Int32).toNatClampNeg (0 : Int32)) ((zup vRu ((0 : Int32).toNatClampNeg) (va_cpy (upd (upd (upd (upd (upd (upd (upd (upd (upd (upd (fun _ => (0 : Int32)) (0 : Int32).toNatClampNeg (1 : Int32)) (1 : Int32).toNatClampNeg (0 : Int32)) (2 : Int32).toNatClampNeg (1 : Int32)) (3 : Int32).toNatClampNeg (0 : Int32)) (4 : Int32).toNatClampNeg (1 : Int32)) (5 : Int32).toNatClampNeg (0 : Int32)) (6 : Int32).toNatClampNeg (0 : Int32)) (7 : Int32).toNatClampNeg (1 : Int32)) (8 : Int32).toNatClampNeg (0 : Int32)) (9 : Int32).toNatClampNeg (0 : Int32)) (vRu ((0 : Int32).toNatClampNeg)) (0 : Int32).toNatClampNeg (0 : Int32).toNatClampNeg (10 : Int32).toNatClampNeg)) ((1 : Int32).toNatClampNeg)) (0 : Int32).toNatClampNeg (0 : Int32).toNatClampNeg (15 : Int32).toNatClampNeg)))]) := zS_subD hp9 hD
  have hR := Option.some.inj hF
  refine z_widen (k := 2) (n := 25) (Nat.le_of_ble_eq_true rfl) (Nat.le_of_ble_eq_true rfl) ?_
  exact W.vret hx hb hr (fun t ht hW => ⟨⟨((2 : Int32), (zup (zup vRu ((0 : Int32).toNatClampNeg) (va_cpy (upd (upd (upd (upd (upd (upd (upd (upd (upd (upd (fun _ => (0 : Int32)) (0 : Int32).toNatClampNeg (1 : Int32)) (1 : Int32).toNatClampNeg (0 : Int32)) (2 : Int32).toNatClampNeg (1 : Int32)) (3 : Int32).toNatClampNeg (0 : Int32)) (4 : Int32).toNatClampNeg (1 : Int32)) (5 : Int32).toNatClampNeg (0 : Int32)) (6 : Int32).toNatClampNeg (0 : Int32)) (7 : Int32).toNatClampNeg (1 : Int32)) (8 : Int32).toNatClampNeg (0 : Int32)) (9 : Int32).toNatClampNeg (0 : Int32)) (vRu ((0 : Int32).toNatClampNeg)) (0 : Int32).toNatClampNeg (0 : Int32).toNatClampNeg (10 : Int32).toNatClampNeg)) ((1 : Int32).toNatClampNeg) (va_cpy (upd (upd (upd (upd (upd (upd (upd (upd (upd (upd (upd (upd (upd (upd (upd (fun _ => (0 : Int32)) (0 : Int32).toNatClampNeg (1 : Int32)) (1 : Int32).toNatClampNeg (0 : Int32)) (2 : Int32).toNatClampNeg (2 : Int32)) (3 : Int32).toNatClampNeg (0 : Int32)) (4 : Int32).toNatClampNeg (2 : Int32)) (5 : Int32).toNatClampNeg (1 : Int32)) (6 : Int32).toNatClampNeg (0 : Int32)) (7 : Int32).toNatClampNeg (1 : Int32)) (8 : Int32).toNatClampNeg (0 : Int32)) (9 : Int32).toNatClampNeg (0 : Int32)) (10 : Int32).toNatClampNeg (0 : Int32)) (11 : Int32).toNatClampNeg (1 : Int32)) (12 : Int32).toNatClampNeg (2 : Int32)) (13 : Int32).toNatClampNeg (0 : Int32)) (14 : Int32).toNatClampNeg (0 : Int32)) ((zup vRu ((0 : Int32).toNatClampNeg) (va_cpy (upd (upd (upd (upd (upd (upd (upd (upd (upd (upd (fun _ => (0 : Int32)) (0 : Int32).toNatClampNeg (1 : Int32)) (1 : Int32).toNatClampNeg (0 : Int32)) (2 : Int32).toNatClampNeg (1 : Int32)) (3 : Int32).toNatClampNeg (0 : Int32)) (4 : Int32).toNatClampNeg (1 : Int32)) (5 : Int32).toNatClampNeg (0 : Int32)) (6 : Int32).toNatClampNeg (0 : Int32)) (7 : Int32).toNatClampNeg (1 : Int32)) (8 : Int32).toNatClampNeg (0 : Int32)) (9 : Int32).toNatClampNeg (0 : Int32)) (vRu ((0 : Int32).toNatClampNeg)) (0 : Int32).toNatClampNeg (0 : Int32).toNatClampNeg (10 : Int32).toNatClampNeg)) ((1 : Int32).toNatClampNeg)) (0 : Int32).toNatClampNeg (0 : Int32).toNatClampNeg (15 : Int32).toNatClampNeg))), rfl, (by subst hR; rfl), by rw [ht]; exact hP9, va_K.moved hW.alike hK, hD9⟩, hS.F ht⟩) hS.2.2 dL_firstRules_156
