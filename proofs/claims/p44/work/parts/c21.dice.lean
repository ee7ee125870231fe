/-! Dice made of the script -/
set_option maxHeartbeats 8000000 in
set_option maxRecDepth 100000 in
theorem oX12_init (l : Launch) (G : va_G) (tt : Nat → ClassId) (sa : Nat → Nat) (sz : Nat) (aD b L : Nat) (xs : Nat → Int32) (hL : L ≤ 260) (hbs : b < sz) (hbD : b ≠ aD) : Met l yX12_init wsX12_init ({ frames := 1, cells := 0, slots := 0, locals := 60 } : Room) (fun a U => zPreQ G (zTy tt) sa [.ref aD, .ref b] sz (zW [[(aD, .inr (11, [.long (0 : Int64)]))]]) a U ∧ va_X b L xs U U.heap) (va_Qv (fun _ : Int64 => True) (zAt G (zTy tt) (va_A (zW [[(aD, .inr (11, [.long (0 : Int64)]))]]) sz) (fun u : Int64 => zW [[(aD, .inr (11, [.long u]))]])) (va_A (zW [[(aD, .inr (11, [.long (0 : Int64)]))]]) sz)) 0 0 (va_A (zW [[(aD, .inr (11, [.long (0 : Int64)]))]]) sz) := by
  refine Met.ofW (cc := cX12_init) (maxL := 6) (ret := none) (by decide +kernel) rfl ?_
  intro p e s m args below meth c s₁ B hml hv
  obtain ⟨⟨rfl, hsz, hP, hK, hD0, hN, hX, hO, hAA⟩, hXs⟩ := hv
  have hx := B.exec
  have hb := B.bytes
  have hr := B.returns
  have hts := atoms_spec (ws := wsX12_init) B.pre
  have hin : meth.name = "<init>" := (name_of_methodNamed B.named B.method).1
  have hown : s.vm.findClass RX12 = some m.cls := findClass_of_methodNamed B.named
  have hlocks := B.notSynchronized
  subst hsz
  have hD := hD0.self (sz := s.heap.size)
  have hbA : ¬ va_A (zW [[(aD, .inr (11, [.long (0 : Int64)]))]]) s.heap.size b := by
    rintro (⟨k, e9, hk⟩ | h)
    · cases k with
      | zero =>
        have h1 : (aD, (.inr (11, [.long (0 : Int64)]) : va_E)) = (b, e9) := Option.some.inj hk
        exact hbD (congrArg Prod.fst h1).symm
      | succ k =>
        have h1 : (none : Option (Nat × va_E)) = some (b, e9) := hk
        cases h1
    · exact absurd h (Nat.not_le.mpr hbs)
  generalize hAe : va_A (zW [[(aD, .inr (11, [.long (0 : Int64)]))]]) s.heap.size = A at hD hX hbA ⊢
  have hA : ∀ q : Nat, s.heap.size ≤ q → A q := fun q h => by rw [← hAe]; exact Or.inr h
  have hP : va_P G vwCl (zW [[(aD, .inr (11, [.long (0 : Int64)]))]]) s.heap := hP
  have hiX12 : ∀ w ∈ wsX120, w ∈ wsX12_init := by decide +kernel
  have hl := lv_entry ([.ref aD, .ref b]) (n := 6) (Nat.le_of_ble_eq_true rfl)
  rw [lg_entry_eq]
  generalize (lg_sl ([.ref aD, .ref b]) ++ List.replicate (6 - (lg_sl ([.ref aD, .ref b])).length) Slot.unset).toArray = ls at hl ⊢
  have hl : lv_has ls 6 [(0, .ref aD), (1, .ref b)] := hl
  have hb19 : ∀ (n i : Nat), i + n = L → ∀ (vSe : Int64) (H : Heap) (locs : List Loc) (ls : Array Slot), va_P G vwCl (zW [[(aD, .inr (11, [.long vSe]))]]) H → va_D A (zW [[(aD, .inr (11, [.long vSe]))]]) → va_S A s.heap H locs → lv_has ls 6 [(0, .ref aD), (1, .ref b), (2, .ref b), (3, .int (Int32.ofNat L)), (4, .int (nI i))] → W p l e (headSpec wsX12_init ({ frames := 1, cells := 0, slots := 0, locals := 60 } : Room)).room s m ([.ref aD, .ref b] : List Value).toArray below meth c H locs 0 0 (MQ below (va_Qv (fun _ : Int64 => True) (zAt G (zTy tt) A (fun u : Int64 => zW [[(aD, .inr (11, [.long u]))]])) A) ([.ref aD, .ref b] : List Value).toArray s 0 0 A) (F0 m 19 ls []) := by
    intro n
    induction n with
    | zero =>
      intro i hi vSe H locs ls hP hD hS hl
      refine lv_iload hx hb dX12_init_19 (lv_at hl 4 rfl) ?_
      refine lv_iload_n hx hb dX12_init_21 rfl (lv_at hl 3 rfl) ?_
      refine lv_icmp_ge (tgt := 55) hx hb dX12_init_22 (by decide) (fun c_22 => ?_) (fun c_22 => ?_)
      · exact W.vret hx hb hr (fun t ht hW => ⟨⟨vSe, rfl, trivial, by rw [ht]; exact hP, va_K.moved hW.alike hK, hD⟩, hS.F ht⟩) hS.2.2 dX12_init_55
      · exact absurd (show Int32.ofNat L ≤ nI i by rw [show Int32.ofNat L = nI L from rfl, zi_le (by omega) (by omega)]; omega) c_22
    | succ n ih =>
      intro i hi vSe H locs ls hP hD hS hl
      refine lv_iload hx hb dX12_init_19 (lv_at hl 4 rfl) ?_
      refine lv_iload_n hx hb dX12_init_21 rfl (lv_at hl 3 rfl) ?_
      refine lv_icmp_ge (tgt := 55) hx hb dX12_init_22 (by decide) (fun c_22 => ?_) (fun c_22 => ?_)
      · exact absurd c_22 (show ¬ Int32.ofNat L ≤ nI i by rw [show Int32.ofNat L = nI L from rfl, zi_le (by omega) (by omega)]; omega)
      · refine lv_aload_n hx hb dX12_init_25 rfl (lv_at hl 2 rfl) ?_
        refine lv_iload hx hb dX12_init_26 (lv_at hl 4 rfl) ?_
        refine va_sld hx hb hXs hbs hbA hS (i := nI i) (vp_in_nI (by omega) (by omega)) dX12_init_28 ?_
        refine lv_istore (lv' := [(5, .int (xs (nI i).toNatClampNeg)), (0, .ref aD), (1, .ref b), (2, .ref b), (3, .int (Int32.ofNat L)), (4, .int (nI i))]) hx hb dX12_init_29 hl (by decide) rfl (fun ls hl => ?_)
        refine lv_aload_n hx hb dX12_init_31 rfl (lv_at hl 1 rfl) ?_
        refine lv_aload_n hx hb dX12_init_32 rfl (lv_at hl 1 rfl) ?_
        obtain ⟨k_33, hk_33, hs_33⟩ := zS_one hP 0 rfl
        refine va_get (D := G) (ci := 11) (v := .long vSe) (C := RX12) (T := TX12) (N := 1) hx hb hts hiX12 hown hK hP k_33 hk_33 rfl 0 (by decide) (hts (.fieldLink RX12 9 "LeapTablesLaw$Dice" "seed" "J") (List.mem_of_getElem? (i := 5) rfl)) (fun _ h9 => h9) rfl dX12_init_33 ?_
        refine lv_iload hx hb dX12_init_36 (lv_at hl 0 rfl) ?_
        refine lv_i2l hx hb dX12_init_38 rfl ?_
        refine lv_lxor hx hb dX12_init_39 ?_
        refine lv_ldc2 (v := (1099511628211 : Int64)) hx hb hown (hts (.constantLong RX12 15 (1099511628211)) (List.mem_of_getElem? (i := 6) rfl)) dX12_init_40 ?_
        refine lv_lmul hx hb dX12_init_43 ?_
        refine lv_lconst (v := (1 : Int64)) hx hb dX12_init_44 (by decide) ?_
        refine lv_ladd hx hb dX12_init_45 ?_
        obtain ⟨k_46, hk_46, hs_46⟩ := zS_one hP 0 rfl
        refine va_put (D := G) (ci := 11) (ty := .long) (C := RX12) (T := TX12) (N := 1) hx hb hts hiX12 tyX12 tyX12_ok nmX12 hown hK hP hD hS k_46 hk_46 rfl 0 (by decide) (hts (.fieldLink RX12 9 "LeapTablesLaw$Dice" "seed" "J") (List.mem_of_getElem? (i := 5) rfl)) (fun _ h9 => h9) rfl (by decide +kernel) rfl rfl (Nat.le_of_ble_eq_true rfl) dX12_init_46 (fun H locs hP hD hS => ?_)
        rw [hs_46] at hP hD
        refine lv_iinc (v := nI i + (1 : Int32)) (lv' := [(4, .int (nI i + (1 : Int32))), (5, .int (xs (nI i).toNatClampNeg)), (0, .ref aD), (1, .ref b), (2, .ref b), (3, .int (Int32.ofNat L))]) hx hb dX12_init_49 hl (k := 5) rfl rfl (by decide) rfl (fun ls hl => ?_)
        refine lv_goto (tgt := 19) hx hb dX12_init_52 (by decide) ?_
        rw [← nI_succ] at hl
        exact ih (i + 1) (by omega) _ _ _ _ hP hD hS (lv_sub hl [2, 3, 4, 5, 0] rfl)
  obtain ⟨H, hHe⟩ : ∃ H : Heap, s.heap = H := ⟨_, rfl⟩
  have hS : va_S A s.heap H [] := by rw [← hHe]; exact va_S.rf
  rw [hHe] at hP ⊢
  refine lv_aload_n hx hb dX12_init_0 rfl (lv_at hl 0 rfl) ?_
  refine z_objInit hx hb hown (hts (.methodLink RX12 1 objectInit) (List.mem_of_getElem? (i := 1) rfl)) (hts (.instanceMethod objectInit) (List.mem_of_getElem? (i := 2) rfl)) (hts (.code objectInit ⟨#[0xb1]⟩ 1 none) (List.mem_of_getElem? (i := 3) rfl)) (hl.1.trans hml.symm) dX12_init_1 (Nat.le_of_ble_eq_true rfl) (Nat.le_of_ble_eq_true rfl) ?_
  refine lv_aload_n hx hb dX12_init_4 rfl (lv_at hl 0 rfl) ?_
  refine lv_ldc2 (v := (17 : Int64)) hx hb hown (hts (.constantLong RX12 7 (17)) (List.mem_of_getElem? (i := 4) rfl)) dX12_init_5 ?_
  obtain ⟨k_8, hk_8, hs_8⟩ := zS_one hP 0 rfl
  refine va_put (D := G) (ci := 11) (v := .long (17 : Int64)) (ty := .long) (C := RX12) (T := TX12) (N := 1) hx hb hts hiX12 tyX12 tyX12_ok nmX12 hown hK hP hD hS k_8 hk_8 rfl 0 (by decide) (hts (.fieldLink RX12 9 "LeapTablesLaw$Dice" "seed" "J") (List.mem_of_getElem? (i := 5) rfl)) (fun _ h9 => h9) rfl (by decide +kernel) rfl rfl (Nat.le_of_ble_eq_true rfl) dX12_init_8 (fun H locs hP hD hS => ?_)
  rw [hs_8] at hP hD
  refine lv_aload_n hx hb dX12_init_11 rfl (lv_at hl 1 rfl) ?_
  refine lv_astore_n (lv' := [(2, .ref b), (0, .ref aD), (1, .ref b)]) hx hb dX12_init_12 rfl hl (by decide) rfl (fun ls hl => ?_)
  refine lv_aload_n hx hb dX12_init_13 rfl (lv_at hl 0 rfl) ?_
  refine va_slen hx hb hXs hbs hbA hS dX12_init_14 ?_
  refine lv_istore_n (lv' := [(3, .int (Int32.ofNat L)), (2, .ref b), (0, .ref aD), (1, .ref b)]) hx hb dX12_init_15 rfl hl (by decide) rfl (fun ls hl => ?_)
  refine lv_iconst (v := (0 : Int32)) hx hb dX12_init_16 (by decide) ?_
  refine lv_istore (lv' := [(4, .int (0 : Int32)), (3, .int (Int32.ofNat L)), (2, .ref b), (0, .ref aD), (1, .ref b)]) hx hb dX12_init_17 hl (by decide) rfl (fun ls hl => ?_)
  exact hb19 L 0 (by omega) _ _ _ _ hP hD hS (lv_sub hl [3, 4, 2, 1, 0] rfl)
