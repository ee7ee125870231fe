/-! JDK, Rows, Ints, Atom, LeapTables.digitOf: the rest -/
set_option maxHeartbeats 8000000 in
set_option maxRecDepth 100000 in
theorem mJ6_bitCount_0f7a4 (l : Launch) (G : va_G) (tt : Nat → ClassId) (sz : Nat) (p0 : Int32) (RR : Int32) (hF : fJ6_bitCount_0f7a4 p0 = some RR) : Met l yJ6_bitCount_0f7a4 wsJ6_bitCount_0f7a4 ({ frames := 0, cells := 0, slots := 0, locals := 0 } : Room) (zPre G (zTy tt) [.int p0] sz []) (va_Qi (fun (r : Int32) (_ : Unit) => r = RR) (zAt G (zTy tt) (va_A [] sz) (fun _ : Unit => [])) (va_A [] sz)) 0 0 (va_A [] sz) := by
  refine Met.ofW (cc := cJ6_bitCount_0f7a4) (maxL := 1) (ret := (some .int)) (by decide +kernel) rfl ?_
  intro p e s m args below meth c s₁ B hml hv
  obtain ⟨rfl, hsz, hP, hK, hD0, hN⟩ := hv
  have hx := B.exec
  have hb := B.bytes
  have hr := B.returns
  have hts := atoms_spec (ws := wsJ6_bitCount_0f7a4) B.pre
  have hown : s.vm.findClass RJ6 = some m.cls := findClass_of_methodNamed B.named
  have hlocks := B.notSynchronized
  subst hsz
  have hD := hD0.self (sz := s.heap.size)
  generalize hAe : va_A [] s.heap.size = A at hD ⊢
  have hA : ∀ q : Nat, s.heap.size ≤ q → A q := fun q h => by rw [← hAe]; exact Or.inr h
  have hP : va_P G vwCl [] s.heap := hP
  have hl := lv_entry ([.int p0]) (n := 1) (Nat.le_of_ble_eq_true rfl)
  rw [lg_entry_eq]
  generalize (lg_sl ([.int p0]) ++ List.replicate (1 - (lg_sl ([.int p0])).length) Slot.unset).toArray = ls at hl ⊢
  have hl : lv_has ls 1 [(0, .int p0)] := hl
  obtain ⟨H, hHe⟩ : ∃ H : Heap, s.heap = H := ⟨_, rfl⟩
  have hS : va_S A s.heap H [] := by rw [← hHe]; exact va_S.rf
  rw [hHe] at hP ⊢
  unfold fJ6_bitCount_0f7a4 at hF
  refine lv_iload_n hx hb dJ6_bitCount_0f7a4_0 rfl (lv_at hl 0 rfl) ?_
  refine lv_iload_n hx hb dJ6_bitCount_0f7a4_1 rfl (lv_at hl 0 rfl) ?_
  refine lv_iconst (v := (1 : Int32)) hx hb dJ6_bitCount_0f7a4_2 (by decide) ?_
  refine lv_iushr hx hb dJ6_bitCount_0f7a4_3 rfl ?_
  refine lv_ldcw (v := (1431655765 : Int32)) hx hb hown (hts (.constant RJ6 265 (1431655765)) (List.mem_of_getElem? (i := 1) rfl)) dJ6_bitCount_0f7a4_4 ?_
  refine lv_iand hx hb dJ6_bitCount_0f7a4_7 ?_
  refine lv_isub hx hb dJ6_bitCount_0f7a4_8 ?_
  refine lv_istore_n (lv' := [(0, .int (p0 - (((p0.toUInt32 >>> ((1 : Int32).toUInt32 &&& Int32.toUInt32 31)).toInt32) &&& (1431655765 : Int32))))]) hx hb dJ6_bitCount_0f7a4_9 rfl hl (by decide) rfl (fun ls hl => ?_)
  refine lv_iload_n hx hb dJ6_bitCount_0f7a4_10 rfl (lv_at hl 0 rfl) ?_
  refine lv_ldcw (v := (858993459 : Int32)) hx hb hown (hts (.constant RJ6 266 (858993459)) (List.mem_of_getElem? (i := 2) rfl)) dJ6_bitCount_0f7a4_11 ?_
  refine lv_iand hx hb dJ6_bitCount_0f7a4_14 ?_
  refine lv_iload_n hx hb dJ6_bitCount_0f7a4_15 rfl (lv_at hl 0 rfl) ?_
  refine lv_iconst (v := (2 : Int32)) hx hb dJ6_bitCount_0f7a4_16 (by decide) ?_
  refine lv_iushr hx hb dJ6_bitCount_0f7a4_17 rfl ?_
  refine lv_ldcw (v := (858993459 : Int32)) hx hb hown (hts (.constant RJ6 266 (858993459)) (List.mem_of_getElem? (i := 2) rfl)) dJ6_bitCount_0f7a4_18 ?_
  refine lv_iand hx hb dJ6_bitCount_0f7a4_21 ?_
  refine lv_iadd hx hb dJ6_bitCount_0f7a4_22 ?_
  refine lv_istore_n (lv' := [(0, .int (((p0 - (((p0.toUInt32 >>> ((1 : Int32).toUInt32 &&& Int32.toUInt32 31)).toInt32) &&& (1431655765 : Int32))) &&& (858993459 : Int32)) + ((((p0 - (((p0.toUInt32 >>> ((1 : Int32).toUInt32 &&& Int32.toUInt32 31)).toInt32) &&& (1431655765 : Int32))).toUInt32 >>> ((2 : Int32).toUInt32 &&& Int32.toUInt32 31)).toInt32) &&& (858993459 : Int32))))]) hx hb dJ6_bitCount_0f7a4_23 rfl hl (by decide) rfl (fun ls hl => ?_)
  refine lv_iload_n hx hb dJ6_bitCount_0f7a4_24 rfl (lv_at hl 0 rfl) ?_
  refine lv_iload_n hx hb dJ6_bitCount_0f7a4_25 rfl (lv_at hl 0 rfl) ?_
  refine lv_iconst (v := (4 : Int32)) hx hb dJ6_bitCount_0f7a4_26 (by decide) ?_
  refine lv_iushr hx hb dJ6_bitCount_0f7a4_27 rfl ?_
  refine lv_iadd hx hb dJ6_bitCount_0f7a4_28 ?_
  refine lv_ldcw (v := (252645135 : Int32)) hx hb hown (hts (.constant RJ6 267 (252645135)) (List.mem_of_getElem? (i := 3) rfl)) dJ6_bitCount_0f7a4_29 ?_
  refine lv_iand hx hb dJ6_bitCount_0f7a4_32 ?_
  refine lv_istore_n (lv' := [(0, .int (((((p0 - (((p0.toUInt32 >>> ((1 : Int32).toUInt32 &&& Int32.toUInt32 31)).toInt32) &&& (1431655765 : Int32))) &&& (858993459 : Int32)) + ((((p0 - (((p0.toUInt32 >>> ((1 : Int32).toUInt32 &&& Int32.toUInt32 31)).toInt32) &&& (1431655765 : Int32))).toUInt32 >>> ((2 : Int32).toUInt32 &&& Int32.toUInt32 31)).toInt32) &&& (858993459 : Int32))) + (((((p0 - (((p0.toUInt32 >>> ((1 : Int32).toUInt32 &&& Int32.toUInt32 31)).toInt32) &&& (1431655765 : Int32))) &&& (858993459 : Int32)) + ((((p0 - (((p0.toUInt32 >>> ((1 : Int32).toUInt32 &&& Int32.toUInt32 31)).toInt32) &&& (1431655765 : Int32))).toUInt32 >>> ((2 : Int32).toUInt32 &&& Int32.toUInt32 31)).toInt32) &&& (858993459 : Int32))).toUInt32 >>> ((4 : Int32).toUInt32 &&& Int32.toUInt32 31)).toInt32)) &&& (252645135 : Int32)))]) hx hb dJ6_bitCount_0f7a4_33 rfl hl (by decide) rfl (fun ls hl => ?_)
  refine lv_iload_n hx hb dJ6_bitCount_0f7a4_34 rfl (lv_at hl 0 rfl) ?_
  refine lv_iload_n hx hb dJ6_bitCount_0f7a4_35 rfl (lv_at hl 0 rfl) ?_
  refine lv_bipush (v := (8 : Int32)) hx hb dJ6_bitCount_0f7a4_36 (by decide) ?_
  refine lv_iushr hx hb dJ6_bitCount_0f7a4_38 rfl ?_
  refine lv_iadd hx hb dJ6_bitCount_0f7a4_39 ?_
  refine lv_istore_n (lv' := [(0, .int ((((((p0 - (((p0.toUInt32 >>> ((1 : Int32).toUInt32 &&& Int32.toUInt32 31)).toInt32) &&& (1431655765 : Int32))) &&& (858993459 : Int32)) + ((((p0 - (((p0.toUInt32 >>> ((1 : Int32).toUInt32 &&& Int32.toUInt32 31)).toInt32) &&& (1431655765 : Int32))).toUInt32 >>> ((2 : Int32).toUInt32 &&& Int32.toUInt32 31)).toInt32) &&& (858993459 : Int32))) + (((((p0 - (((p0.toUInt32 >>> ((1 : Int32).toUInt32 &&& Int32.toUInt32 31)).toInt32) &&& (1431655765 : Int32))) &&& (858993459 : Int32)) + ((((p0 - (((p0.toUInt32 >>> ((1 : Int32).toUInt32 &&& Int32.toUInt32 31)).toInt32) &&& (1431655765 : Int32))).toUInt32 >>> ((2 : Int32).toUInt32 &&& Int32.toUInt32 31)).toInt32) &&& (858993459 : Int32))).toUInt32 >>> ((4 : Int32).toUInt32 &&& Int32.toUInt32 31)).toInt32)) &&& (252645135 : Int32)) + (((((((p0 - (((p0.toUInt32 >>> ((1 : Int32).toUInt32 &&& Int32.toUInt32 31)).toInt32) &&& (1431655765 : Int32))) &&& (858993459 : Int32)) + ((((p0 - (((p0.toUInt32 >>> ((1 : Int32).toUInt32 &&& Int32.toUInt32 31)).toInt32) &&& (1431655765 : Int32))).toUInt32 >>> ((2 : Int32).toUInt32 &&& Int32.toUInt32 31)).toInt32) &&& (858993459 : Int32))) + (((((p0 - (((p0.toUInt32 >>> ((1 : Int32).toUInt32 &&& Int32.toUInt32 31)).toInt32) &&& (1431655765 : Int32))) &&& (858993459 : Int32)) + ((((p0 - (((p0.toUInt32 >>> ((1 : Int32).toUInt32 &&& Int32.toUInt32 31)).toInt32) &&& (1431655765 : Int32))).toUInt32 >>> ((2 : Int32).toUInt32 &&& Int32.toUInt32 31)).toInt32) &&& (858993459 : Int32))).toUInt32 >>> ((4 : Int32).toUInt32 &&& Int32.toUInt32 31)).toInt32)) &&& (252645135 : Int32)).toUInt32 >>> ((8 : Int32).toUInt32 &&& Int32.toUInt32 31)).toInt32)))]) hx hb dJ6_bitCount_0f7a4_40 rfl hl (by decide) rfl (fun ls hl => ?_)
  refine lv_iload_n hx hb dJ6_bitCount_0f7a4_41 rfl (lv_at hl 0 rfl) ?_
  refine lv_iload_n hx hb dJ6_bitCount_0f7a4_42 rfl (lv_at hl 0 rfl) ?_
  refine lv_bipush (v := (16 : Int32)) hx hb dJ6_bitCount_0f7a4_43 (by decide) ?_
  refine lv_iushr hx hb dJ6_bitCount_0f7a4_45 rfl ?_
  refine lv_iadd hx hb dJ6_bitCount_0f7a4_46 ?_
  refine lv_istore_n (lv' := [(0, .int (((((((p0 - (((p0.toUInt32 >>> ((1 : Int32).toUInt32 &&& Int32.toUInt32 31)).toInt32) &&& (1431655765 : Int32))) &&& (858993459 : Int32)) + ((((p0 - (((p0.toUInt32 >>> ((1 : Int32).toUInt32 &&& Int32.toUInt32 31)).toInt32) &&& (1431655765 : Int32))).toUInt32 >>> ((2 : Int32).toUInt32 &&& Int32.toUInt32 31)).toInt32) &&& (858993459 : Int32))) + (((((p0 - (((p0.toUInt32 >>> ((1 : Int32).toUInt32 &&& Int32.toUInt32 31)).toInt32) &&& (1431655765 : Int32))) &&& (858993459 : Int32)) + ((((p0 - (((p0.toUInt32 >>> ((1 : Int32).toUInt32 &&& Int32.toUInt32 31)).toInt32) &&& (1431655765 : Int32))).toUInt32 >>> ((2 : Int32).toUInt32 &&& Int32.toUInt32 31)).toInt32) &&& (858993459 : Int32))).toUInt32 >>> ((4 : Int32).toUInt32 &&& Int32.toUInt32 31)).toInt32)) &&& (252645135 : Int32)) + (((((((p0 - (((p0.toUInt32 >>> ((1 : Int32).toUInt32 &&& Int32.toUInt32 31)).toInt32) &&& (1431655765 : Int32))) &&& (858993459 : Int32)) + ((((p0 - (((p0.toUInt32 >>> ((1 : Int32).toUInt32 &&& Int32.toUInt32 31)).toInt32) &&& (1431655765 : Int32))).toUInt32 >>> ((2 : Int32).toUInt32 &&& Int32.toUInt32 31)).toInt32) &&& (858993459 : Int32))) + (((((p0 - (((p0.toUInt32 >>> ((1 : Int32).toUInt32 &&& Int32.toUInt32 31)).toInt32) &&& (1431655765 : Int32))) &&& (858993459 : Int32)) + ((((p0 - (((p0.toUInt32 >>> ((1 : Int32).toUInt32 &&& Int32.toUInt32 31)).toInt32) &&& (1431655765 : Int32))).toUInt32 >>> ((2 : Int32).toUInt32 &&& Int32.toUInt32 31)).toInt32) &&& (858993459 : Int32))).toUInt32 >>> ((4 : Int32).toUInt32 &&& Int32.toUInt32 31)).toInt32)) &&& (252645135 : Int32)).toUInt32 >>> ((8 : Int32).toUInt32 &&& Int32.toUInt32 31)).toInt32)) + ((((((((p0 - (((p0.toUInt32 >>> ((1 : Int32).toUInt32 &&& Int32.toUInt32 31)).toInt32) &&& (1431655765 : Int32))) &&& (858993459 : Int32)) + ((((p0 - (((p0.toUInt32 >>> ((1 : Int32).toUInt32 &&& Int32.toUInt32 31)).toInt32) &&& (1431655765 : Int32))).toUInt32 >>> ((2 : Int32).toUInt32 &&& Int32.toUInt32 31)).toInt32) &&& (858993459 : Int32))) + (((((p0 - (((p0.toUInt32 >>> ((1 : Int32).toUInt32 &&& Int32.toUInt32 31)).toInt32) &&& (1431655765 : Int32))) &&& (858993459 : Int32)) + ((((p0 - (((p0.toUInt32 >>> ((1 : Int32).toUInt32 &&& Int32.toUInt32 31)).toInt32) &&& (1431655765 : Int32))).toUInt32 >>> ((2 : Int32).toUInt32 &&& Int32.toUInt32 31)).toInt32) &&& (858993459 : Int32))).toUInt32 >>> ((4 : Int32).toUInt32 &&& Int32.toUInt32 31)).toInt32)) &&& (252645135 : Int32)) + (((((((p0 - (((p0.toUInt32 >>> ((1 : Int32).toUInt32 &&& Int32.toUInt32 31)).toInt32) &&& (1431655765 : Int32))) &&& (858993459 : Int32)) + ((((p0 - (((p0.toUInt32 >>> ((1 : Int32).toUInt32 &&& Int32.toUInt32 31)).toInt32) &&& (1431655765 : Int32))).toUInt32 >>> ((2 : Int32).toUInt32 &&& Int32.toUInt32 31)).toInt32) &&& (858993459 : Int32))) + (((((p0 - (((p0.toUInt32 >>> ((1 : Int32).toUInt32 &&& Int32.toUInt32 31)).toInt32) &&& (1431655765 : Int32))) &&& (858993459 : Int32)) + ((((p0 - (((p0.toUInt32 >>> ((1 : Int32).toUInt32 &&& Int32.toUInt32 31)).toInt32) &&& (1431655765 : Int32))).toUInt32 >>> ((2 : Int32).toUInt32 &&& Int32.toUInt32 31)).toInt32) &&& (858993459 : Int32))).toUInt32 >>> ((4 : Int32).toUInt32 &&& Int32.toUInt32 31)).toInt32)) &&& (252645135 : Int32)).toUInt32 >>> ((8 : Int32).toUInt32 &&& Int32.toUInt32 31)).toInt32)).toUInt32 >>> ((16 : Int32).toUInt32 &&& Int32.toUInt32 31)).toInt32)))]) hx hb dJ6_bitCount_0f7a4_47 rfl hl (by decide) rfl (fun ls hl => ?_)
  refine lv_iload_n hx hb dJ6_bitCount_0f7a4_48 rfl (lv_at hl 0 rfl) ?_
  refine lv_bipush (v := (63 : Int32)) hx hb dJ6_bitCount_0f7a4_49 (by decide) ?_
  refine lv_iand hx hb dJ6_bitCount_0f7a4_51 ?_
  have hPD : zPD G A [] H := ⟨hP.sub [] rfl, hD.sub [] (by decide +kernel) rfl⟩
  have hP9 := hPD.1
  have hD9 := hPD.2
  have hR := Option.some.inj hF
  exact W.iret (v := ((((((((p0 - (((p0.toUInt32 >>> ((1 : Int32).toUInt32 &&& Int32.toUInt32 31)).toInt32) &&& (1431655765 : Int32))) &&& (858993459 : Int32)) + ((((p0 - (((p0.toUInt32 >>> ((1 : Int32).toUInt32 &&& Int32.toUInt32 31)).toInt32) &&& (1431655765 : Int32))).toUInt32 >>> ((2 : Int32).toUInt32 &&& Int32.toUInt32 31)).toInt32) &&& (858993459 : Int32))) + (((((p0 - (((p0.toUInt32 >>> ((1 : Int32).toUInt32 &&& Int32.toUInt32 31)).toInt32) &&& (1431655765 : Int32))) &&& (858993459 : Int32)) + ((((p0 - (((p0.toUInt32 >>> ((1 : Int32).toUInt32 &&& Int32.toUInt32 31)).toInt32) &&& (1431655765 : Int32))).toUInt32 >>> ((2 : Int32).toUInt32 &&& Int32.toUInt32 31)).toInt32) &&& (858993459 : Int32))).toUInt32 >>> ((4 : Int32).toUInt32 &&& Int32.toUInt32 31)).toInt32)) &&& (252645135 : Int32)) + (((((((p0 - (((p0.toUInt32 >>> ((1 : Int32).toUInt32 &&& Int32.toUInt32 31)).toInt32) &&& (1431655765 : Int32))) &&& (858993459 : Int32)) + ((((p0 - (((p0.toUInt32 >>> ((1 : Int32).toUInt32 &&& Int32.toUInt32 31)).toInt32) &&& (1431655765 : Int32))).toUInt32 >>> ((2 : Int32).toUInt32 &&& Int32.toUInt32 31)).toInt32) &&& (858993459 : Int32))) + (((((p0 - (((p0.toUInt32 >>> ((1 : Int32).toUInt32 &&& Int32.toUInt32 31)).toInt32) &&& (1431655765 : Int32))) &&& (858993459 : Int32)) + ((((p0 - (((p0.toUInt32 >>> ((1 : Int32).toUInt32 &&& Int32.toUInt32 31)).toInt32) &&& (1431655765 : Int32))).toUInt32 >>> ((2 : Int32).toUInt32 &&& Int32.toUInt32 31)).toInt32) &&& (858993459 : Int32))).toUInt32 >>> ((4 : Int32).toUInt32 &&& Int32.toUInt32 31)).toInt32)) &&& (252645135 : Int32)).toUInt32 >>> ((8 : Int32).toUInt32 &&& Int32.toUInt32 31)).toInt32)) + ((((((((p0 - (((p0.toUInt32 >>> ((1 : Int32).toUInt32 &&& Int32.toUInt32 31)).toInt32) &&& (1431655765 : Int32))) &&& (858993459 : Int32)) + ((((p0 - (((p0.toUInt32 >>> ((1 : Int32).toUInt32 &&& Int32.toUInt32 31)).toInt32) &&& (1431655765 : Int32))).toUInt32 >>> ((2 : Int32).toUInt32 &&& Int32.toUInt32 31)).toInt32) &&& (858993459 : Int32))) + (((((p0 - (((p0.toUInt32 >>> ((1 : Int32).toUInt32 &&& Int32.toUInt32 31)).toInt32) &&& (1431655765 : Int32))) &&& (858993459 : Int32)) + ((((p0 - (((p0.toUInt32 >>> ((1 : Int32).toUInt32 &&& Int32.toUInt32 31)).toInt32) &&& (1431655765 : Int32))).toUInt32 >>> ((2 : Int32).toUInt32 &&& Int32.toUInt32 31)).toInt32) &&& (858993459 : Int32))).toUInt32 >>> ((4 : Int32).toUInt32 &&& Int32.toUInt32 31)).toInt32)) &&& (252645135 : Int32)) + (((((((p0 - (((p0.toUInt32 >>> ((1 : Int32).toUInt32 &&& Int32.toUInt32 31)).toInt32) &&& (1431655765 : Int32))) &&& (858993459 : Int32)) + ((((p0 - (((p0.toUInt32 >>> ((1 : Int32).toUInt32 &&& Int32.toUInt32 31)).toInt32) &&& (1431655765 : Int32))).toUInt32 >>> ((2 : Int32).toUInt32 &&& Int32.toUInt32 31)).toInt32) &&& (858993459 : Int32))) + (((((p0 - (((p0.toUInt32 >>> ((1 : Int32).toUInt32 &&& Int32.toUInt32 31)).toInt32) &&& (1431655765 : Int32))) &&& (858993459 : Int32)) + ((((p0 - (((p0.toUInt32 >>> ((1 : Int32).toUInt32 &&& Int32.toUInt32 31)).toInt32) &&& (1431655765 : Int32))).toUInt32 >>> ((2 : Int32).toUInt32 &&& Int32.toUInt32 31)).toInt32) &&& (858993459 : Int32))).toUInt32 >>> ((4 : Int32).toUInt32 &&& Int32.toUInt32 31)).toInt32)) &&& (252645135 : Int32)).toUInt32 >>> ((8 : Int32).toUInt32 &&& Int32.toUInt32 31)).toInt32)).toUInt32 >>> ((16 : Int32).toUInt32 &&& Int32.toUInt32 31)).toInt32)) &&& (63 : Int32))) hx hb hr (fun t ht hW => ⟨⟨((((((((p0 - (((p0.toUInt32 >>> ((1 : Int32).toUInt32 &&& Int32.toUInt32 31)).toInt32) &&& (1431655765 : Int32))) &&& (858993459 : Int32)) + ((((p0 - (((p0.toUInt32 >>> ((1 : Int32).toUInt32 &&& Int32.toUInt32 31)).toInt32) &&& (1431655765 : Int32))).toUInt32 >>> ((2 : Int32).toUInt32 &&& Int32.toUInt32 31)).toInt32) &&& (858993459 : Int32))) + (((((p0 - (((p0.toUInt32 >>> ((1 : Int32).toUInt32 &&& Int32.toUInt32 31)).toInt32) &&& (1431655765 : Int32))) &&& (858993459 : Int32)) + ((((p0 - (((p0.toUInt32 >>> ((1 : Int32).toUInt32 &&& Int32.toUInt32 31)).toInt32) &&& (1431655765 : Int32))).toUInt32 >>> ((2 : Int32).toUInt32 &&& Int32.toUInt32 31)).toInt32) &&& (858993459 : Int32))).toUInt32 >>> ((4 : Int32).toUInt32 &&& Int32.toUInt32 31)).toInt32)) &&& (252645135 : Int32)) + (((((((p0 - (((p0.toUInt32 >>> ((1 : Int32).toUInt32 &&& Int32.toUInt32 31)).toInt32) &&& (1431655765 : Int32))) &&& (858993459 : Int32)) + ((((p0 - (((p0.toUInt32 >>> ((1 : Int32).toUInt32 &&& Int32.toUInt32 31)).toInt32) &&& (1431655765 : Int32))).toUInt32 >>> ((2 : Int32).toUInt32 &&& Int32.toUInt32 31)).toInt32) &&& (858993459 : Int32))) + (((((p0 - (((p0.toUInt32 >>> ((1 : Int32).toUInt32 &&& Int32.toUInt32 31)).toInt32) &&& (1431655765 : Int32))) &&& (858993459 : Int32)) + ((((p0 - (((p0.toUInt32 >>> ((1 : Int32).toUInt32 &&& Int32.toUInt32 31)).toInt32) &&& (1431655765 : Int32))).toUInt32 >>> ((2 : Int32).toUInt32 &&& Int32.toUInt32 31)).toInt32) &&& (858993459 : Int32))).toUInt32 >>> ((4 : Int32).toUInt32 &&& Int32.toUInt32 31)).toInt32)) &&& (252645135 : Int32)).toUInt32 >>> ((8 : Int32).toUInt32 &&& Int32.toUInt32 31)).toInt32)) + ((((((((p0 - (((p0.toUInt32 >>> ((1 : Int32).toUInt32 &&& Int32.toUInt32 31)).toInt32) &&& (1431655765 : Int32))) &&& (858993459 : Int32)) + ((((p0 - (((p0.toUInt32 >>> ((1 : Int32).toUInt32 &&& Int32.toUInt32 31)).toInt32) &&& (1431655765 : Int32))).toUInt32 >>> ((2 : Int32).toUInt32 &&& Int32.toUInt32 31)).toInt32) &&& (858993459 : Int32))) + (((((p0 - (((p0.toUInt32 >>> ((1 : Int32).toUInt32 &&& Int32.toUInt32 31)).toInt32) &&& (1431655765 : Int32))) &&& (858993459 : Int32)) + ((((p0 - (((p0.toUInt32 >>> ((1 : Int32).toUInt32 &&& Int32.toUInt32 31)).toInt32) &&& (1431655765 : Int32))).toUInt32 >>> ((2 : Int32).toUInt32 &&& Int32.toUInt32 31)).toInt32) &&& (858993459 : Int32))).toUInt32 >>> ((4 : Int32).toUInt32 &&& Int32.toUInt32 31)).toInt32)) &&& (252645135 : Int32)) + (((((((p0 - (((p0.toUInt32 >>> ((1 : Int32).toUInt32 &&& Int32.toUInt32 31)).toInt32) &&& (1431655765 : Int32))) &&& (858993459 : Int32)) + ((((p0 - (((p0.toUInt32 >>> ((1 : Int32).toUInt32 &&& Int32.toUInt32 31)).toInt32) &&& (1431655765 : Int32))).toUInt32 >>> ((2 : Int32).toUInt32 &&& Int32.toUInt32 31)).toInt32) &&& (858993459 : Int32))) + (((((p0 - (((p0.toUInt32 >>> ((1 : Int32).toUInt32 &&& Int32.toUInt32 31)).toInt32) &&& (1431655765 : Int32))) &&& (858993459 : Int32)) + ((((p0 - (((p0.toUInt32 >>> ((1 : Int32).toUInt32 &&& Int32.toUInt32 31)).toInt32) &&& (1431655765 : Int32))).toUInt32 >>> ((2 : Int32).toUInt32 &&& Int32.toUInt32 31)).toInt32) &&& (858993459 : Int32))).toUInt32 >>> ((4 : Int32).toUInt32 &&& Int32.toUInt32 31)).toInt32)) &&& (252645135 : Int32)).toUInt32 >>> ((8 : Int32).toUInt32 &&& Int32.toUInt32 31)).toInt32)).toUInt32 >>> ((16 : Int32).toUInt32 &&& Int32.toUInt32 31)).toInt32)) &&& (63 : Int32)), (), rfl, (by subst hR; rfl), by rw [ht]; exact hP9, va_K.moved hW.alike hK, hD9⟩, hS.F ht⟩) hS.2.2 dJ6_bitCount_0f7a4_52

set_option maxHeartbeats 8000000 in
set_option maxRecDepth 100000 in
theorem mJ13_bitCount_95d88 (l : Launch) (G : va_G) (tt : Nat → ClassId) (sz : Nat) (p0 : Int64) (RR : Int32) (hF : fJ13_bitCount_95d88 p0 = some RR) : Met l yJ13_bitCount_95d88 wsJ13_bitCount_95d88 ({ frames := 0, cells := 0, slots := 0, locals := 0 } : Room) (zPre G (zTy tt) [.long p0] sz []) (va_Qi (fun (r : Int32) (_ : Unit) => r = RR) (zAt G (zTy tt) (va_A [] sz) (fun _ : Unit => [])) (va_A [] sz)) 0 0 (va_A [] sz) := by
  refine Met.ofW (cc := cJ13_bitCount_95d88) (maxL := 2) (ret := (some .int)) (by decide +kernel) rfl ?_
  intro p e s m args below meth c s₁ B hml hv
  obtain ⟨rfl, hsz, hP, hK, hD0, hN⟩ := hv
  have hx := B.exec
  have hb := B.bytes
  have hr := B.returns
  have hts := atoms_spec (ws := wsJ13_bitCount_95d88) B.pre
  have hown : s.vm.findClass RJ13 = some m.cls := findClass_of_methodNamed B.named
  have hlocks := B.notSynchronized
  subst hsz
  have hD := hD0.self (sz := s.heap.size)
  generalize hAe : va_A [] s.heap.size = A at hD ⊢
  have hA : ∀ q : Nat, s.heap.size ≤ q → A q := fun q h => by rw [← hAe]; exact Or.inr h
  have hP : va_P G vwCl [] s.heap := hP
  have hl := lv_entry ([.long p0]) (n := 2) (Nat.le_of_ble_eq_true rfl)
  rw [lg_entry_eq]
  generalize (lg_sl ([.long p0]) ++ List.replicate (2 - (lg_sl ([.long p0])).length) Slot.unset).toArray = ls at hl ⊢
  have hl : lv_has ls 2 [(0, .long p0)] := hl
  obtain ⟨H, hHe⟩ : ∃ H : Heap, s.heap = H := ⟨_, rfl⟩
  have hS : va_S A s.heap H [] := by rw [← hHe]; exact va_S.rf
  rw [hHe] at hP ⊢
  unfold fJ13_bitCount_95d88 at hF
  refine lv_lload_n hx hb dJ13_bitCount_95d88_0 rfl (lv_at hl 0 rfl) ?_
  refine lv_lload_n hx hb dJ13_bitCount_95d88_1 rfl (lv_at hl 0 rfl) ?_
  refine lv_iconst (v := (1 : Int32)) hx hb dJ13_bitCount_95d88_2 (by decide) ?_
  refine lv_lushr hx hb dJ13_bitCount_95d88_3 rfl ?_
  refine lv_ldc2 (v := (6148914691236517205 : Int64)) hx hb hown (hts (.constantLong RJ13 314 (6148914691236517205)) (List.mem_of_getElem? (i := 1) rfl)) dJ13_bitCount_95d88_4 ?_
  refine lv_land hx hb dJ13_bitCount_95d88_7 ?_
  refine lv_lsub hx hb dJ13_bitCount_95d88_8 ?_
  refine lv_lstore_n (lv' := [(0, .long (p0 - (((p0.toUInt64 >>> ((1 : Int32).toInt64.toUInt64 &&& Int64.toUInt64 63)).toInt64) &&& (6148914691236517205 : Int64))))]) hx hb dJ13_bitCount_95d88_9 rfl hl (by decide) rfl (fun ls hl => ?_)
  refine lv_lload_n hx hb dJ13_bitCount_95d88_10 rfl (lv_at hl 0 rfl) ?_
  refine lv_ldc2 (v := (3689348814741910323 : Int64)) hx hb hown (hts (.constantLong RJ13 316 (3689348814741910323)) (List.mem_of_getElem? (i := 2) rfl)) dJ13_bitCount_95d88_11 ?_
  refine lv_land hx hb dJ13_bitCount_95d88_14 ?_
  refine lv_lload_n hx hb dJ13_bitCount_95d88_15 rfl (lv_at hl 0 rfl) ?_
  refine lv_iconst (v := (2 : Int32)) hx hb dJ13_bitCount_95d88_16 (by decide) ?_
  refine lv_lushr hx hb dJ13_bitCount_95d88_17 rfl ?_
  refine lv_ldc2 (v := (3689348814741910323 : Int64)) hx hb hown (hts (.constantLong RJ13 316 (3689348814741910323)) (List.mem_of_getElem? (i := 2) rfl)) dJ13_bitCount_95d88_18 ?_
  refine lv_land hx hb dJ13_bitCount_95d88_21 ?_
  refine lv_ladd hx hb dJ13_bitCount_95d88_22 ?_
  refine lv_lstore_n (lv' := [(0, .long (((p0 - (((p0.toUInt64 >>> ((1 : Int32).toInt64.toUInt64 &&& Int64.toUInt64 63)).toInt64) &&& (6148914691236517205 : Int64))) &&& (3689348814741910323 : Int64)) + ((((p0 - (((p0.toUInt64 >>> ((1 : Int32).toInt64.toUInt64 &&& Int64.toUInt64 63)).toInt64) &&& (6148914691236517205 : Int64))).toUInt64 >>> ((2 : Int32).toInt64.toUInt64 &&& Int64.toUInt64 63)).toInt64) &&& (3689348814741910323 : Int64))))]) hx hb dJ13_bitCount_95d88_23 rfl hl (by decide) rfl (fun ls hl => ?_)
  refine lv_lload_n hx hb dJ13_bitCount_95d88_24 rfl (lv_at hl 0 rfl) ?_
  refine lv_lload_n hx hb dJ13_bitCount_95d88_25 rfl (lv_at hl 0 rfl) ?_
  refine lv_iconst (v := (4 : Int32)) hx hb dJ13_bitCount_95d88_26 (by decide) ?_
  refine lv_lushr hx hb dJ13_bitCount_95d88_27 rfl ?_
  refine lv_ladd hx hb dJ13_bitCount_95d88_28 ?_
  refine lv_ldc2 (v := (1085102592571150095 : Int64)) hx hb hown (hts (.constantLong RJ13 318 (1085102592571150095)) (List.mem_of_getElem? (i := 3) rfl)) dJ13_bitCount_95d88_29 ?_
  refine lv_land hx hb dJ13_bitCount_95d88_32 ?_
  refine lv_lstore_n (lv' := [(0, .long (((((p0 - (((p0.toUInt64 >>> ((1 : Int32).toInt64.toUInt64 &&& Int64.toUInt64 63)).toInt64) &&& (6148914691236517205 : Int64))) &&& (3689348814741910323 : Int64)) + ((((p0 - (((p0.toUInt64 >>> ((1 : Int32).toInt64.toUInt64 &&& Int64.toUInt64 63)).toInt64) &&& (6148914691236517205 : Int64))).toUInt64 >>> ((2 : Int32).toInt64.toUInt64 &&& Int64.toUInt64 63)).toInt64) &&& (3689348814741910323 : Int64))) + (((((p0 - (((p0.toUInt64 >>> ((1 : Int32).toInt64.toUInt64 &&& Int64.toUInt64 63)).toInt64) &&& (6148914691236517205 : Int64))) &&& (3689348814741910323 : Int64)) + ((((p0 - (((p0.toUInt64 >>> ((1 : Int32).toInt64.toUInt64 &&& Int64.toUInt64 63)).toInt64) &&& (6148914691236517205 : Int64))).toUInt64 >>> ((2 : Int32).toInt64.toUInt64 &&& Int64.toUInt64 63)).toInt64) &&& (3689348814741910323 : Int64))).toUInt64 >>> ((4 : Int32).toInt64.toUInt64 &&& Int64.toUInt64 63)).toInt64)) &&& (1085102592571150095 : Int64)))]) hx hb dJ13_bitCount_95d88_33 rfl hl (by decide) rfl (fun ls hl => ?_)
  refine lv_lload_n hx hb dJ13_bitCount_95d88_34 rfl (lv_at hl 0 rfl) ?_
  refine lv_lload_n hx hb dJ13_bitCount_95d88_35 rfl (lv_at hl 0 rfl) ?_
  refine lv_bipush (v := (8 : Int32)) hx hb dJ13_bitCount_95d88_36 (by decide) ?_
  refine lv_lushr hx hb dJ13_bitCount_95d88_38 rfl ?_
  refine lv_ladd hx hb dJ13_bitCount_95d88_39 ?_
  refine lv_lstore_n (lv' := [(0, .long ((((((p0 - (((p0.toUInt64 >>> ((1 : Int32).toInt64.toUInt64 &&& Int64.toUInt64 63)).toInt64) &&& (6148914691236517205 : Int64))) &&& (3689348814741910323 : Int64)) + ((((p0 - (((p0.toUInt64 >>> ((1 : Int32).toInt64.toUInt64 &&& Int64.toUInt64 63)).toInt64) &&& (6148914691236517205 : Int64))).toUInt64 >>> ((2 : Int32).toInt64.toUInt64 &&& Int64.toUInt64 63)).toInt64) &&& (3689348814741910323 : Int64))) + (((((p0 - (((p0.toUInt64 >>> ((1 : Int32).toInt64.toUInt64 &&& Int64.toUInt64 63)).toInt64) &&& (6148914691236517205 : Int64))) &&& (3689348814741910323 : Int64)) + ((((p0 - (((p0.toUInt64 >>> ((1 : Int32).toInt64.toUInt64 &&& Int64.toUInt64 63)).toInt64) &&& (6148914691236517205 : Int64))).toUInt64 >>> ((2 : Int32).toInt64.toUInt64 &&& Int64.toUInt64 63)).toInt64) &&& (3689348814741910323 : Int64))).toUInt64 >>> ((4 : Int32).toInt64.toUInt64 &&& Int64.toUInt64 63)).toInt64)) &&& (1085102592571150095 : Int64)) + (((((((p0 - (((p0.toUInt64 >>> ((1 : Int32).toInt64.toUInt64 &&& Int64.toUInt64 63)).toInt64) &&& (6148914691236517205 : Int64))) &&& (3689348814741910323 : Int64)) + ((((p0 - (((p0.toUInt64 >>> ((1 : Int32).toInt64.toUInt64 &&& Int64.toUInt64 63)).toInt64) &&& (6148914691236517205 : Int64))).toUInt64 >>> ((2 : Int32).toInt64.toUInt64 &&& Int64.toUInt64 63)).toInt64) &&& (3689348814741910323 : Int64))) + (((((p0 - (((p0.toUInt64 >>> ((1 : Int32).toInt64.toUInt64 &&& Int64.toUInt64 63)).toInt64) &&& (6148914691236517205 : Int64))) &&& (3689348814741910323 : Int64)) + ((((p0 - (((p0.toUInt64 >>> ((1 : Int32).toInt64.toUInt64 &&& Int64.toUInt64 63)).toInt64) &&& (6148914691236517205 : Int64))).toUInt64 >>> ((2 : Int32).toInt64.toUInt64 &&& Int64.toUInt64 63)).toInt64) &&& (3689348814741910323 : Int64))).toUInt64 >>> ((4 : Int32).toInt64.toUInt64 &&& Int64.toUInt64 63)).toInt64)) &&& (1085102592571150095 : Int64)).toUInt64 >>> ((8 : Int32).toInt64.toUInt64 &&& Int64.toUInt64 63)).toInt64)))]) hx hb dJ13_bitCount_95d88_40 rfl hl (by decide) rfl (fun ls hl => ?_)
  refine lv_lload_n hx hb dJ13_bitCount_95d88_41 rfl (lv_at hl 0 rfl) ?_
  refine lv_lload_n hx hb dJ13_bitCount_95d88_42 rfl (lv_at hl 0 rfl) ?_
  refine lv_bipush (v := (16 : Int32)) hx hb dJ13_bitCount_95d88_43 (by decide) ?_
  refine lv_lushr hx hb dJ13_bitCount_95d88_45 rfl ?_
  refine lv_ladd hx hb dJ13_bitCount_95d88_46 ?_
  refine lv_lstore_n (lv' := [(0, .long (((((((p0 - (((p0.toUInt64 >>> ((1 : Int32).toInt64.toUInt64 &&& Int64.toUInt64 63)).toInt64) &&& (6148914691236517205 : Int64))) &&& (3689348814741910323 : Int64)) + ((((p0 - (((p0.toUInt64 >>> ((1 : Int32).toInt64.toUInt64 &&& Int64.toUInt64 63)).toInt64) &&& (6148914691236517205 : Int64))).toUInt64 >>> ((2 : Int32).toInt64.toUInt64 &&& Int64.toUInt64 63)).toInt64) &&& (3689348814741910323 : Int64))) + (((((p0 - (((p0.toUInt64 >>> ((1 : Int32).toInt64.toUInt64 &&& Int64.toUInt64 63)).toInt64) &&& (6148914691236517205 : Int64))) &&& (3689348814741910323 : Int64)) + ((((p0 - (((p0.toUInt64 >>> ((1 : Int32).toInt64.toUInt64 &&& Int64.toUInt64 63)).toInt64) &&& (6148914691236517205 : Int64))).toUInt64 >>> ((2 : Int32).toInt64.toUInt64 &&& Int64.toUInt64 63)).toInt64) &&& (3689348814741910323 : Int64))).toUInt64 >>> ((4 : Int32).toInt64.toUInt64 &&& Int64.toUInt64 63)).toInt64)) &&& (1085102592571150095 : Int64)) + (((((((p0 - (((p0.toUInt64 >>> ((1 : Int32).toInt64.toUInt64 &&& Int64.toUInt64 63)).toInt64) &&& (6148914691236517205 : Int64))) &&& (3689348814741910323 : Int64)) + ((((p0 - (((p0.toUInt64 >>> ((1 : Int32).toInt64.toUInt64 &&& Int64.toUInt64 63)).toInt64) &&& (6148914691236517205 : Int64))).toUInt64 >>> ((2 : Int32).toInt64.toUInt64 &&& Int64.toUInt64 63)).toInt64) &&& (3689348814741910323 : Int64))) + (((((p0 - (((p0.toUInt64 >>> ((1 : Int32).toInt64.toUInt64 &&& Int64.toUInt64 63)).toInt64) &&& (6148914691236517205 : Int64))) &&& (3689348814741910323 : Int64)) + ((((p0 - (((p0.toUInt64 >>> ((1 : Int32).toInt64.toUInt64 &&& Int64.toUInt64 63)).toInt64) &&& (6148914691236517205 : Int64))).toUInt64 >>> ((2 : Int32).toInt64.toUInt64 &&& Int64.toUInt64 63)).toInt64) &&& (3689348814741910323 : Int64))).toUInt64 >>> ((4 : Int32).toInt64.toUInt64 &&& Int64.toUInt64 63)).toInt64)) &&& (1085102592571150095 : Int64)).toUInt64 >>> ((8 : Int32).toInt64.toUInt64 &&& Int64.toUInt64 63)).toInt64)) + ((((((((p0 - (((p0.toUInt64 >>> ((1 : Int32).toInt64.toUInt64 &&& Int64.toUInt64 63)).toInt64) &&& (6148914691236517205 : Int64))) &&& (3689348814741910323 : Int64)) + ((((p0 - (((p0.toUInt64 >>> ((1 : Int32).toInt64.toUInt64 &&& Int64.toUInt64 63)).toInt64) &&& (6148914691236517205 : Int64))).toUInt64 >>> ((2 : Int32).toInt64.toUInt64 &&& Int64.toUInt64 63)).toInt64) &&& (3689348814741910323 : Int64))) + (((((p0 - (((p0.toUInt64 >>> ((1 : Int32).toInt64.toUInt64 &&& Int64.toUInt64 63)).toInt64) &&& (6148914691236517205 : Int64))) &&& (3689348814741910323 : Int64)) + ((((p0 - (((p0.toUInt64 >>> ((1 : Int32).toInt64.toUInt64 &&& Int64.toUInt64 63)).toInt64) &&& (6148914691236517205 : Int64))).toUInt64 >>> ((2 : Int32).toInt64.toUInt64 &&& Int64.toUInt64 63)).toInt64) &&& (3689348814741910323 : Int64))).toUInt64 >>> ((4 : Int32).toInt64.toUInt64 &&& Int64.toUInt64 63)).toInt64)) &&& (1085102592571150095 : Int64)) + (((((((p0 - (((p0.toUInt64 >>> ((1 : Int32).toInt64.toUInt64 &&& Int64.toUInt64 63)).toInt64) &&& (6148914691236517205 : Int64))) &&& (3689348814741910323 : Int64)) + ((((p0 - (((p0.toUInt64 >>> ((1 : Int32).toInt64.toUInt64 &&& Int64.toUInt64 63)).toInt64) &&& (6148914691236517205 : Int64))).toUInt64 >>> ((2 : Int32).toInt64.toUInt64 &&& Int64.toUInt64 63)).toInt64) &&& (3689348814741910323 : Int64))) + (((((p0 - (((p0.toUInt64 >>> ((1 : Int32).toInt64.toUInt64 &&& Int64.toUInt64 63)).toInt64) &&& (6148914691236517205 : Int64))) &&& (3689348814741910323 : Int64)) + ((((p0 - (((p0.toUInt64 >>> ((1 : Int32).toInt64.toUInt64 &&& Int64.toUInt64 63)).toInt64) &&& (6148914691236517205 : Int64))).toUInt64 >>> ((2 : Int32).toInt64.toUInt64 &&& Int64.toUInt64 63)).toInt64) &&& (3689348814741910323 : Int64))).toUInt64 >>> ((4 : Int32).toInt64.toUInt64 &&& Int64.toUInt64 63)).toInt64)) &&& (1085102592571150095 : Int64)).toUInt64 >>> ((8 : Int32).toInt64.toUInt64 &&& Int64.toUInt64 63)).toInt64)).toUInt64 >>> ((16 : Int32).toInt64.toUInt64 &&& Int64.toUInt64 63)).toInt64)))]) hx hb dJ13_bitCount_95d88_47 rfl hl (by decide) rfl (fun ls hl => ?_)
  refine lv_lload_n hx hb dJ13_bitCount_95d88_48 rfl (lv_at hl 0 rfl) ?_
  refine lv_lload_n hx hb dJ13_bitCount_95d88_49 rfl (lv_at hl 0 rfl) ?_
  refine lv_bipush (v := (32 : Int32)) hx hb dJ13_bitCount_95d88_50 (by decide) ?_
  refine lv_lushr hx hb dJ13_bitCount_95d88_52 rfl ?_
  refine lv_ladd hx hb dJ13_bitCount_95d88_53 ?_
  refine lv_lstore_n (lv' := [(0, .long ((((((((p0 - (((p0.toUInt64 >>> ((1 : Int32).toInt64.toUInt64 &&& Int64.toUInt64 63)).toInt64) &&& (6148914691236517205 : Int64))) &&& (3689348814741910323 : Int64)) + ((((p0 - (((p0.toUInt64 >>> ((1 : Int32).toInt64.toUInt64 &&& Int64.toUInt64 63)).toInt64) &&& (6148914691236517205 : Int64))).toUInt64 >>> ((2 : Int32).toInt64.toUInt64 &&& Int64.toUInt64 63)).toInt64) &&& (3689348814741910323 : Int64))) + (((((p0 - (((p0.toUInt64 >>> ((1 : Int32).toInt64.toUInt64 &&& Int64.toUInt64 63)).toInt64) &&& (6148914691236517205 : Int64))) &&& (3689348814741910323 : Int64)) + ((((p0 - (((p0.toUInt64 >>> ((1 : Int32).toInt64.toUInt64 &&& Int64.toUInt64 63)).toInt64) &&& (6148914691236517205 : Int64))).toUInt64 >>> ((2 : Int32).toInt64.toUInt64 &&& Int64.toUInt64 63)).toInt64) &&& (3689348814741910323 : Int64))).toUInt64 >>> ((4 : Int32).toInt64.toUInt64 &&& Int64.toUInt64 63)).toInt64)) &&& (1085102592571150095 : Int64)) + (((((((p0 - (((p0.toUInt64 >>> ((1 : Int32).toInt64.toUInt64 &&& Int64.toUInt64 63)).toInt64) &&& (6148914691236517205 : Int64))) &&& (3689348814741910323 : Int64)) + ((((p0 - (((p0.toUInt64 >>> ((1 : Int32).toInt64.toUInt64 &&& Int64.toUInt64 63)).toInt64) &&& (6148914691236517205 : Int64))).toUInt64 >>> ((2 : Int32).toInt64.toUInt64 &&& Int64.toUInt64 63)).toInt64) &&& (3689348814741910323 : Int64))) + (((((p0 - (((p0.toUInt64 >>> ((1 : Int32).toInt64.toUInt64 &&& Int64.toUInt64 63)).toInt64) &&& (6148914691236517205 : Int64))) &&& (3689348814741910323 : Int64)) + ((((p0 - (((p0.toUInt64 >>> ((1 : Int32).toInt64.toUInt64 &&& Int64.toUInt64 63)).toInt64) &&& (6148914691236517205 : Int64))).toUInt64 >>> ((2 : Int32).toInt64.toUInt64 &&& Int64.toUInt64 63)).toInt64) &&& (3689348814741910323 : Int64))).toUInt64 >>> ((4 : Int32).toInt64.toUInt64 &&& Int64.toUInt64 63)).toInt64)) &&& (1085102592571150095 : Int64)).toUInt64 >>> ((8 : Int32).toInt64.toUInt64 &&& Int64.toUInt64 63)).toInt64)) + ((((((((p0 - (((p0.toUInt64 >>> ((1 : Int32).toInt64.toUInt64 &&& Int64.toUInt64 63)).toInt64) &&& (6148914691236517205 : Int64))) &&& (3689348814741910323 : Int64)) + ((((p0 - (((p0.toUInt64 >>> ((1 : Int32).toInt64.toUInt64 &&& Int64.toUInt64 63)).toInt64) &&& (6148914691236517205 : Int64))).toUInt64 >>> ((2 : Int32).toInt64.toUInt64 &&& Int64.toUInt64 63)).toInt64) &&& (3689348814741910323 : Int64))) + (((((p0 - (((p0.toUInt64 >>> ((1 : Int32).toInt64.toUInt64 &&& Int64.toUInt64 63)).toInt64) &&& (6148914691236517205 : Int64))) &&& (3689348814741910323 : Int64)) + ((((p0 - (((p0.toUInt64 >>> ((1 : Int32).toInt64.toUInt64 &&& Int64.toUInt64 63)).toInt64) &&& (6148914691236517205 : Int64))).toUInt64 >>> ((2 : Int32).toInt64.toUInt64 &&& Int64.toUInt64 63)).toInt64) &&& (3689348814741910323 : Int64))).toUInt64 >>> ((4 : Int32).toInt64.toUInt64 &&& Int64.toUInt64 63)).toInt64)) &&& (1085102592571150095 : Int64)) + (((((((p0 - (((p0.toUInt64 >>> ((1 : Int32).toInt64.toUInt64 &&& Int64.toUInt64 63)).toInt64) &&& (6148914691236517205 : Int64))) &&& (3689348814741910323 : Int64)) + ((((p0 - (((p0.toUInt64 >>> ((1 : Int32).toInt64.toUInt64 &&& Int64.toUInt64 63)).toInt64) &&& (6148914691236517205 : Int64))).toUInt64 >>> ((2 : Int32).toInt64.toUInt64 &&& Int64.toUInt64 63)).toInt64) &&& (3689348814741910323 : Int64))) + (((((p0 - (((p0.toUInt64 >>> ((1 : Int32).toInt64.toUInt64 &&& Int64.toUInt64 63)).toInt64) &&& (6148914691236517205 : Int64))) &&& (3689348814741910323 : Int64)) + ((((p0 - (((p0.toUInt64 >>> ((1 : Int32).toInt64.toUInt64 &&& Int64.toUInt64 63)).toInt64) &&& (6148914691236517205 : Int64))).toUInt64 >>> ((2 : Int32).toInt64.toUInt64 &&& Int64.toUInt64 63)).toInt64) &&& (3689348814741910323 : Int64))).toUInt64 >>> ((4 : Int32).toInt64.toUInt64 &&& Int64.toUInt64 63)).toInt64)) &&& (1085102592571150095 : Int64)).toUInt64 >>> ((8 : Int32).toInt64.toUInt64 &&& Int64.toUInt64 63)).toInt64)).toUInt64 >>> ((16 : Int32).toInt64.toUInt64 &&& Int64.toUInt64 63)).toInt64)) + (((((((((p0 - (((p0.toUInt64 >>> ((1 : Int32).toInt64.toUInt64 &&& Int64.toUInt64 63)).toInt64) &&& (6148914691236517205 : Int64))) &&& (3689348814741910323 : Int64)) + ((((p0 - (((p0.toUInt64 >>> ((1 : Int32).toInt64.toUInt64 &&& Int64.toUInt64 63)).toInt64) &&& (6148914691236517205 : Int64))).toUInt64 >>> ((2 : Int32).toInt64.toUInt64 &&& Int64.toUInt64 63)).toInt64) &&& (3689348814741910323 : Int64))) + (((((p0 - (((p0.toUInt64 >>> ((1 : Int32).toInt64.toUInt64 &&& Int64.toUInt64 63)).toInt64) &&& (6148914691236517205 : Int64))) &&& (3689348814741910323 : Int64)) + ((((p0 - (((p0.toUInt64 >>> ((1 : Int32).toInt64.toUInt64 &&& Int64.toUInt64 63)).toInt64) &&& (6148914691236517205 : Int64))).toUInt64 >>> ((2 : Int32).toInt64.toUInt64 &&& Int64.toUInt64 63)).toInt64) &&& (3689348814741910323 : Int64))).toUInt64 >>> ((4 : Int32).toInt64.toUInt64 &&& Int64.toUInt64 63)).toInt64)) &&& (1085102592571150095 : Int64)) + (((((((p0 - (((p0.toUInt64 >>> ((1 : Int32).toInt64.toUInt64 &&& Int64.toUInt64 63)).toInt64) &&& (6148914691236517205 : Int64))) &&& (3689348814741910323 : Int64)) + ((((p0 - (((p0.toUInt64 >>> ((1 : Int32).toInt64.toUInt64 &&& Int64.toUInt64 63)).toInt64) &&& (6148914691236517205 : Int64))).toUInt64 >>> ((2 : Int32).toInt64.toUInt64 &&& Int64.toUInt64 63)).toInt64) &&& (3689348814741910323 : Int64))) + (((((p0 - (((p0.toUInt64 >>> ((1 : Int32).toInt64.toUInt64 &&& Int64.toUInt64 63)).toInt64) &&& (6148914691236517205 : Int64))) &&& (3689348814741910323 : Int64)) + ((((p0 - (((p0.toUInt64 >>> ((1 : Int32).toInt64.toUInt64 &&& Int64.toUInt64 63)).toInt64) &&& (6148914691236517205 : Int64))).toUInt64 >>> ((2 : Int32).toInt64.toUInt64 &&& Int64.toUInt64 63)).toInt64) &&& (3689348814741910323 : Int64))).toUInt64 >>> ((4 : Int32).toInt64.toUInt64 &&& Int64.toUInt64 63)).toInt64)) &&& (1085102592571150095 : Int64)).toUInt64 >>> ((8 : Int32).toInt64.toUInt64 &&& Int64.toUInt64 63)).toInt64)) + ((((((((p0 - (((p0.toUInt64 >>> ((1 : Int32).toInt64.toUInt64 &&& Int64.toUInt64 63)).toInt64) &&& (6148914691236517205 : Int64))) &&& (3689348814741910323 : Int64)) + ((((p0 - (((p0.toUInt64 >>> ((1 : Int32).toInt64.toUInt64 &&& Int64.toUInt64 63)).toInt64) &&& (6148914691236517205 : Int64))).toUInt64 >>> ((2 : Int32).toInt64.toUInt64 &&& Int64.toUInt64 63)).toInt64) &&& (3689348814741910323 : Int64))) + (((((p0 - (((p0.toUInt64 >>> ((1 : Int32).toInt64.toUInt64 &&& Int64.toUInt64 63)).toInt64) &&& (6148914691236517205 : Int64))) &&& (3689348814741910323 : Int64)) + ((((p0 - (((p0.toUInt64 >>> ((1 : Int32).toInt64.toUInt64 &&& Int64.toUInt64 63)).toInt64) &&& (6148914691236517205 : Int64))).toUInt64 >>> ((2 : Int32).toInt64.toUInt64 &&& Int64.toUInt64 63)).toInt64) &&& (3689348814741910323 : Int64))).toUInt64 >>> ((4 : Int32).toInt64.toUInt64 &&& Int64.toUInt64 63)).toInt64)) &&& (1085102592571150095 : Int64)) + (((((((p0 - (((p0.toUInt64 >>> ((1 : Int32).toInt64.toUInt64 &&& Int64.toUInt64 63)).toInt64) &&& (6148914691236517205 : Int64))) &&& (3689348814741910323 : Int64)) + ((((p0 - (((p0.toUInt64 >>> ((1 : Int32).toInt64.toUInt64 &&& Int64.toUInt64 63)).toInt64) &&& (6148914691236517205 : Int64))).toUInt64 >>> ((2 : Int32).toInt64.toUInt64 &&& Int64.toUInt64 63)).toInt64) &&& (3689348814741910323 : Int64))) + (((((p0 - (((p0.toUInt64 >>> ((1 : Int32).toInt64.toUInt64 &&& Int64.toUInt64 63)).toInt64) &&& (6148914691236517205 : Int64))) &&& (3689348814741910323 : Int64)) + ((((p0 - (((p0.toUInt64 >>> ((1 : Int32).toInt64.toUInt64 &&& Int64.toUInt64 63)).toInt64) &&& (6148914691236517205 : Int64))).toUInt64 >>> ((2 : Int32).toInt64.toUInt64 &&& Int64.toUInt64 63)).toInt64) &&& (3689348814741910323 : Int64))).toUInt64 >>> ((4 : Int32).toInt64.toUInt64 &&& Int64.toUInt64 63)).toInt64)) &&& (1085102592571150095 : Int64)).toUInt64 >>> ((8 : Int32).toInt64.toUInt64 &&& Int64.toUInt64 63)).toInt64)).toUInt64 >>> ((16 : Int32).toInt64.toUInt64 &&& Int64.toUInt64 63)).toInt64)).toUInt64 >>> ((32 : Int32).toInt64.toUInt64 &&& Int64.toUInt64 63)).toInt64)))]) hx hb dJ13_bitCount_95d88_54 rfl hl (by decide) rfl (fun ls hl => ?_)
  refine lv_lload_n hx hb dJ13_bitCount_95d88_55 rfl (lv_at hl 0 rfl) ?_
  refine lv_l2i hx hb dJ13_bitCount_95d88_56 rfl ?_
  refine lv_bipush (v := (127 : Int32)) hx hb dJ13_bitCount_95d88_57 (by decide) ?_
  refine lv_iand hx hb dJ13_bitCount_95d88_59 ?_
  have hPD : zPD G A [] H := ⟨hP.sub [] rfl, hD.sub [] (by decide +kernel) rfl⟩
  have hP9 := hPD.1
  have hD9 := hPD.2
  have hR := Option.some.inj hF
  exact W.iret (v := ((((((((((p0 - (((p0.toUInt64 >>> ((1 : Int32).toInt64.toUInt64 &&& Int64.toUInt64 63)).toInt64) &&& (6148914691236517205 : Int64))) &&& (3689348814741910323 : Int64)) + ((((p0 - (((p0.toUInt64 >>> ((1 : Int32).toInt64.toUInt64 &&& Int64.toUInt64 63)).toInt64) &&& (6148914691236517205 : Int64))).toUInt64 >>> ((2 : Int32).toInt64.toUInt64 &&& Int64.toUInt64 63)).toInt64) &&& (3689348814741910323 : Int64))) + (((((p0 - (((p0.toUInt64 >>> ((1 : Int32).toInt64.toUInt64 &&& Int64.toUInt64 63)).toInt64) &&& (6148914691236517205 : Int64))) &&& (3689348814741910323 : Int64)) + ((((p0 - (((p0.toUInt64 >>> ((1 : Int32).toInt64.toUInt64 &&& Int64.toUInt64 63)).toInt64) &&& (6148914691236517205 : Int64))).toUInt64 >>> ((2 : Int32).toInt64.toUInt64 &&& Int64.toUInt64 63)).toInt64) &&& (3689348814741910323 : Int64))).toUInt64 >>> ((4 : Int32).toInt64.toUInt64 &&& Int64.toUInt64 63)).toInt64)) &&& (1085102592571150095 : Int64)) + (((((((p0 - (((p0.toUInt64 >>> ((1 : Int32).toInt64.toUInt64 &&& Int64.toUInt64 63)).toInt64) &&& (6148914691236517205 : Int64))) &&& (3689348814741910323 : Int64)) + ((((p0 - (((p0.toUInt64 >>> ((1 : Int32).toInt64.toUInt64 &&& Int64.toUInt64 63)).toInt64) &&& (6148914691236517205 : Int64))).toUInt64 >>> ((2 : Int32).toInt64.toUInt64 &&& Int64.toUInt64 63)).toInt64) &&& (3689348814741910323 : Int64))) + (((((p0 - (((p0.toUInt64 >>> ((1 : Int32).toInt64.toUInt64 &&& Int64.toUInt64 63)).toInt64) &&& (6148914691236517205 : Int64))) &&& (3689348814741910323 : Int64)) + ((((p0 - (((p0.toUInt64 >>> ((1 : Int32).toInt64.toUInt64 &&& Int64.toUInt64 63)).toInt64) &&& (6148914691236517205 : Int64))).toUInt64 >>> ((2 : Int32).toInt64.toUInt64 &&& Int64.toUInt64 63)).toInt64) &&& (3689348814741910323 : Int64))).toUInt64 >>> ((4 : Int32).toInt64.toUInt64 &&& Int64.toUInt64 63)).toInt64)) &&& (1085102592571150095 : Int64)).toUInt64 >>> ((8 : Int32).toInt64.toUInt64 &&& Int64.toUInt64 63)).toInt64)) + ((((((((p0 - (((p0.toUInt64 >>> ((1 : Int32).toInt64.toUInt64 &&& Int64.toUInt64 63)).toInt64) &&& (6148914691236517205 : Int64))) &&& (3689348814741910323 : Int64)) + ((((p0 - (((p0.toUInt64 >>> ((1 : Int32).toInt64.toUInt64 &&& Int64.toUInt64 63)).toInt64) &&& (6148914691236517205 : Int64))).toUInt64 >>> ((2 : Int32).toInt64.toUInt64 &&& Int64.toUInt64 63)).toInt64) &&& (3689348814741910323 : Int64))) + (((((p0 - (((p0.toUInt64 >>> ((1 : Int32).toInt64.toUInt64 &&& Int64.toUInt64 63)).toInt64) &&& (6148914691236517205 : Int64))) &&& (3689348814741910323 : Int64)) + ((((p0 - (((p0.toUInt64 >>> ((1 : Int32).toInt64.toUInt64 &&& Int64.toUInt64 63)).toInt64) &&& (6148914691236517205 : Int64))).toUInt64 >>> ((2 : Int32).toInt64.toUInt64 &&& Int64.toUInt64 63)).toInt64) &&& (3689348814741910323 : Int64))).toUInt64 >>> ((4 : Int32).toInt64.toUInt64 &&& Int64.toUInt64 63)).toInt64)) &&& (1085102592571150095 : Int64)) + (((((((p0 - (((p0.toUInt64 >>> ((1 : Int32).toInt64.toUInt64 &&& Int64.toUInt64 63)).toInt64) &&& (6148914691236517205 : Int64))) &&& (3689348814741910323 : Int64)) + ((((p0 - (((p0.toUInt64 >>> ((1 : Int32).toInt64.toUInt64 &&& Int64.toUInt64 63)).toInt64) &&& (6148914691236517205 : Int64))).toUInt64 >>> ((2 : Int32).toInt64.toUInt64 &&& Int64.toUInt64 63)).toInt64) &&& (3689348814741910323 : Int64))) + (((((p0 - (((p0.toUInt64 >>> ((1 : Int32).toInt64.toUInt64 &&& Int64.toUInt64 63)).toInt64) &&& (6148914691236517205 : Int64))) &&& (3689348814741910323 : Int64)) + ((((p0 - (((p0.toUInt64 >>> ((1 : Int32).toInt64.toUInt64 &&& Int64.toUInt64 63)).toInt64) &&& (6148914691236517205 : Int64))).toUInt64 >>> ((2 : Int32).toInt64.toUInt64 &&& Int64.toUInt64 63)).toInt64) &&& (3689348814741910323 : Int64))).toUInt64 >>> ((4 : Int32).toInt64.toUInt64 &&& Int64.toUInt64 63)).toInt64)) &&& (1085102592571150095 : Int64)).toUInt64 >>> ((8 : Int32).toInt64.toUInt64 &&& Int64.toUInt64 63)).toInt64)).toUInt64 >>> ((16 : Int32).toInt64.toUInt64 &&& Int64.toUInt64 63)).toInt64)) + (((((((((p0 - (((p0.toUInt64 >>> ((1 : Int32).toInt64.toUInt64 &&& Int64.toUInt64 63)).toInt64) &&& (6148914691236517205 : Int64))) &&& (3689348814741910323 : Int64)) + ((((p0 - (((p0.toUInt64 >>> ((1 : Int32).toInt64.toUInt64 &&& Int64.toUInt64 63)).toInt64) &&& (6148914691236517205 : Int64))).toUInt64 >>> ((2 : Int32).toInt64.toUInt64 &&& Int64.toUInt64 63)).toInt64) &&& (3689348814741910323 : Int64))) + (((((p0 - (((p0.toUInt64 >>> ((1 : Int32).toInt64.toUInt64 &&& Int64.toUInt64 63)).toInt64) &&& (6148914691236517205 : Int64))) &&& (3689348814741910323 : Int64)) + ((((p0 - (((p0.toUInt64 >>> ((1 : Int32).toInt64.toUInt64 &&& Int64.toUInt64 63)).toInt64) &&& (6148914691236517205 : Int64))).toUInt64 >>> ((2 : Int32).toInt64.toUInt64 &&& Int64.toUInt64 63)).toInt64) &&& (3689348814741910323 : Int64))).toUInt64 >>> ((4 : Int32).toInt64.toUInt64 &&& Int64.toUInt64 63)).toInt64)) &&& (1085102592571150095 : Int64)) + (((((((p0 - (((p0.toUInt64 >>> ((1 : Int32).toInt64.toUInt64 &&& Int64.toUInt64 63)).toInt64) &&& (6148914691236517205 : Int64))) &&& (3689348814741910323 : Int64)) + ((((p0 - (((p0.toUInt64 >>> ((1 : Int32).toInt64.toUInt64 &&& Int64.toUInt64 63)).toInt64) &&& (6148914691236517205 : Int64))).toUInt64 >>> ((2 : Int32).toInt64.toUInt64 &&& Int64.toUInt64 63)).toInt64) &&& (3689348814741910323 : Int64))) + (((((p0 - (((p0.toUInt64 >>> ((1 : Int32).toInt64.toUInt64 &&& Int64.toUInt64 63)).toInt64) &&& (6148914691236517205 : Int64))) &&& (3689348814741910323 : Int64)) + ((((p0 - (((p0.toUInt64 >>> ((1 : Int32).toInt64.toUInt64 &&& Int64.toUInt64 63)).toInt64) &&& (6148914691236517205 : Int64))).toUInt64 >>> ((2 : Int32).toInt64.toUInt64 &&& Int64.toUInt64 63)).toInt64) &&& (3689348814741910323 : Int64))).toUInt64 >>> ((4 : Int32).toInt64.toUInt64 &&& Int64.toUInt64 63)).toInt64)) &&& (1085102592571150095 : Int64)).toUInt64 >>> ((8 : Int32).toInt64.toUInt64 &&& Int64.toUInt64 63)).toInt64)) + ((((((((p0 - (((p0.toUInt64 >>> ((1 : Int32).toInt64.toUInt64 &&& Int64.toUInt64 63)).toInt64) &&& (6148914691236517205 : Int64))) &&& (3689348814741910323 : Int64)) + ((((p0 - (((p0.toUInt64 >>> ((1 : Int32).toInt64.toUInt64 &&& Int64.toUInt64 63)).toInt64) &&& (6148914691236517205 : Int64))).toUInt64 >>> ((2 : Int32).toInt64.toUInt64 &&& Int64.toUInt64 63)).toInt64) &&& (3689348814741910323 : Int64))) + (((((p0 - (((p0.toUInt64 >>> ((1 : Int32).toInt64.toUInt64 &&& Int64.toUInt64 63)).toInt64) &&& (6148914691236517205 : Int64))) &&& (3689348814741910323 : Int64)) + ((((p0 - (((p0.toUInt64 >>> ((1 : Int32).toInt64.toUInt64 &&& Int64.toUInt64 63)).toInt64) &&& (6148914691236517205 : Int64))).toUInt64 >>> ((2 : Int32).toInt64.toUInt64 &&& Int64.toUInt64 63)).toInt64) &&& (3689348814741910323 : Int64))).toUInt64 >>> ((4 : Int32).toInt64.toUInt64 &&& Int64.toUInt64 63)).toInt64)) &&& (1085102592571150095 : Int64)) + (((((((p0 - (((p0.toUInt64 >>> ((1 : Int32).toInt64.toUInt64 &&& Int64.toUInt64 63)).toInt64) &&& (6148914691236517205 : Int64))) &&& (3689348814741910323 : Int64)) + ((((p0 - (((p0.toUInt64 >>> ((1 : Int32).toInt64.toUInt64 &&& Int64.toUInt64 63)).toInt64) &&& (6148914691236517205 : Int64))).toUInt64 >>> ((2 : Int32).toInt64.toUInt64 &&& Int64.toUInt64 63)).toInt64) &&& (3689348814741910323 : Int64))) + (((((p0 - (((p0.toUInt64 >>> ((1 : Int32).toInt64.toUInt64 &&& Int64.toUInt64 63)).toInt64) &&& (6148914691236517205 : Int64))) &&& (3689348814741910323 : Int64)) + ((((p0 - (((p0.toUInt64 >>> ((1 : Int32).toInt64.toUInt64 &&& Int64.toUInt64 63)).toInt64) &&& (6148914691236517205 : Int64))).toUInt64 >>> ((2 : Int32).toInt64.toUInt64 &&& Int64.toUInt64 63)).toInt64) &&& (3689348814741910323 : Int64))).toUInt64 >>> ((4 : Int32).toInt64.toUInt64 &&& Int64.toUInt64 63)).toInt64)) &&& (1085102592571150095 : Int64)).toUInt64 >>> ((8 : Int32).toInt64.toUInt64 &&& Int64.toUInt64 63)).toInt64)).toUInt64 >>> ((16 : Int32).toInt64.toUInt64 &&& Int64.toUInt64 63)).toInt64)).toUInt64 >>> ((32 : Int32).toInt64.toUInt64 &&& Int64.toUInt64 63)).toInt64)).toInt32) &&& (127 : Int32))) hx hb hr (fun t ht hW => ⟨⟨((((((((((p0 - (((p0.toUInt64 >>> ((1 : Int32).toInt64.toUInt64 &&& Int64.toUInt64 63)).toInt64) &&& (6148914691236517205 : Int64))) &&& (3689348814741910323 : Int64)) + ((((p0 - (((p0.toUInt64 >>> ((1 : Int32).toInt64.toUInt64 &&& Int64.toUInt64 63)).toInt64) &&& (6148914691236517205 : Int64))).toUInt64 >>> ((2 : Int32).toInt64.toUInt64 &&& Int64.toUInt64 63)).toInt64) &&& (3689348814741910323 : Int64))) + (((((p0 - (((p0.toUInt64 >>> ((1 : Int32).toInt64.toUInt64 &&& Int64.toUInt64 63)).toInt64) &&& (6148914691236517205 : Int64))) &&& (3689348814741910323 : Int64)) + ((((p0 - (((p0.toUInt64 >>> ((1 : Int32).toInt64.toUInt64 &&& Int64.toUInt64 63)).toInt64) &&& (6148914691236517205 : Int64))).toUInt64 >>> ((2 : Int32).toInt64.toUInt64 &&& Int64.toUInt64 63)).toInt64) &&& (3689348814741910323 : Int64))).toUInt64 >>> ((4 : Int32).toInt64.toUInt64 &&& Int64.toUInt64 63)).toInt64)) &&& (1085102592571150095 : Int64)) + (((((((p0 - (((p0.toUInt64 >>> ((1 : Int32).toInt64.toUInt64 &&& Int64.toUInt64 63)).toInt64) &&& (6148914691236517205 : Int64))) &&& (3689348814741910323 : Int64)) + ((((p0 - (((p0.toUInt64 >>> ((1 : Int32).toInt64.toUInt64 &&& Int64.toUInt64 63)).toInt64) &&& (6148914691236517205 : Int64))).toUInt64 >>> ((2 : Int32).toInt64.toUInt64 &&& Int64.toUInt64 63)).toInt64) &&& (3689348814741910323 : Int64))) + (((((p0 - (((p0.toUInt64 >>> ((1 : Int32).toInt64.toUInt64 &&& Int64.toUInt64 63)).toInt64) &&& (6148914691236517205 : Int64))) &&& (3689348814741910323 : Int64)) + ((((p0 - (((p0.toUInt64 >>> ((1 : Int32).toInt64.toUInt64 &&& Int64.toUInt64 63)).toInt64) &&& (6148914691236517205 : Int64))).toUInt64 >>> ((2 : Int32).toInt64.toUInt64 &&& Int64.toUInt64 63)).toInt64) &&& (3689348814741910323 : Int64))).toUInt64 >>> ((4 : Int32).toInt64.toUInt64 &&& Int64.toUInt64 63)).toInt64)) &&& (1085102592571150095 : Int64)).toUInt64 >>> ((8 : Int32).toInt64.toUInt64 &&& Int64.toUInt64 63)).toInt64)) + ((((((((p0 - (((p0.toUInt64 >>> ((1 : Int32).toInt64.toUInt64 &&& Int64.toUInt64 63)).toInt64) &&& (6148914691236517205 : Int64))) &&& (3689348814741910323 : Int64)) + ((((p0 - (((p0.toUInt64 >>> ((1 : Int32).toInt64.toUInt64 &&& Int64.toUInt64 63)).toInt64) &&& (6148914691236517205 : Int64))).toUInt64 >>> ((2 : Int32).toInt64.toUInt64 &&& Int64.toUInt64 63)).toInt64) &&& (3689348814741910323 : Int64))) + (((((p0 - (((p0.toUInt64 >>> ((1 : Int32).toInt64.toUInt64 &&& Int64.toUInt64 63)).toInt64) &&& (6148914691236517205 : Int64))) &&& (3689348814741910323 : Int64)) + ((((p0 - (((p0.toUInt64 >>> ((1 : Int32).toInt64.toUInt64 &&& Int64.toUInt64 63)).toInt64) &&& (6148914691236517205 : Int64))).toUInt64 >>> ((2 : Int32).toInt64.toUInt64 &&& Int64.toUInt64 63)).toInt64) &&& (3689348814741910323 : Int64))).toUInt64 >>> ((4 : Int32).toInt64.toUInt64 &&& Int64.toUInt64 63)).toInt64)) &&& (1085102592571150095 : Int64)) + (((((((p0 - (((p0.toUInt64 >>> ((1 : Int32).toInt64.toUInt64 &&& Int64.toUInt64 63)).toInt64) &&& (6148914691236517205 : Int64))) &&& (3689348814741910323 : Int64)) + ((((p0 - (((p0.toUInt64 >>> ((1 : Int32).toInt64.toUInt64 &&& Int64.toUInt64 63)).toInt64) &&& (6148914691236517205 : Int64))).toUInt64 >>> ((2 : Int32).toInt64.toUInt64 &&& Int64.toUInt64 63)).toInt64) &&& (3689348814741910323 : Int64))) + (((((p0 - (((p0.toUInt64 >>> ((1 : Int32).toInt64.toUInt64 &&& Int64.toUInt64 63)).toInt64) &&& (6148914691236517205 : Int64))) &&& (3689348814741910323 : Int64)) + ((((p0 - (((p0.toUInt64 >>> ((1 : Int32).toInt64.toUInt64 &&& Int64.toUInt64 63)).toInt64) &&& (6148914691236517205 : Int64))).toUInt64 >>> ((2 : Int32).toInt64.toUInt64 &&& Int64.toUInt64 63)).toInt64) &&& (3689348814741910323 : Int64))).toUInt64 >>> ((4 : Int32).toInt64.toUInt64 &&& Int64.toUInt64 63)).toInt64)) &&& (1085102592571150095 : Int64)).toUInt64 >>> ((8 : Int32).toInt64.toUInt64 &&& Int64.toUInt64 63)).toInt64)).toUInt64 >>> ((16 : Int32).toInt64.toUInt64 &&& Int64.toUInt64 63)).toInt64)) + (((((((((p0 - (((p0.toUInt64 >>> ((1 : Int32).toInt64.toUInt64 &&& Int64.toUInt64 63)).toInt64) &&& (6148914691236517205 : Int64))) &&& (3689348814741910323 : Int64)) + ((((p0 - (((p0.toUInt64 >>> ((1 : Int32).toInt64.toUInt64 &&& Int64.toUInt64 63)).toInt64) &&& (6148914691236517205 : Int64))).toUInt64 >>> ((2 : Int32).toInt64.toUInt64 &&& Int64.toUInt64 63)).toInt64) &&& (3689348814741910323 : Int64))) + (((((p0 - (((p0.toUInt64 >>> ((1 : Int32).toInt64.toUInt64 &&& Int64.toUInt64 63)).toInt64) &&& (6148914691236517205 : Int64))) &&& (3689348814741910323 : Int64)) + ((((p0 - (((p0.toUInt64 >>> ((1 : Int32).toInt64.toUInt64 &&& Int64.toUInt64 63)).toInt64) &&& (6148914691236517205 : Int64))).toUInt64 >>> ((2 : Int32).toInt64.toUInt64 &&& Int64.toUInt64 63)).toInt64) &&& (3689348814741910323 : Int64))).toUInt64 >>> ((4 : Int32).toInt64.toUInt64 &&& Int64.toUInt64 63)).toInt64)) &&& (1085102592571150095 : Int64)) + (((((((p0 - (((p0.toUInt64 >>> ((1 : Int32).toInt64.toUInt64 &&& Int64.toUInt64 63)).toInt64) &&& (6148914691236517205 : Int64))) &&& (3689348814741910323 : Int64)) + ((((p0 - (((p0.toUInt64 >>> ((1 : Int32).toInt64.toUInt64 &&& Int64.toUInt64 63)).toInt64) &&& (6148914691236517205 : Int64))).toUInt64 >>> ((2 : Int32).toInt64.toUInt64 &&& Int64.toUInt64 63)).toInt64) &&& (3689348814741910323 : Int64))) + (((((p0 - (((p0.toUInt64 >>> ((1 : Int32).toInt64.toUInt64 &&& Int64.toUInt64 63)).toInt64) &&& (6148914691236517205 : Int64))) &&& (3689348814741910323 : Int64)) + ((((p0 - (((p0.toUInt64 >>> ((1 : Int32).toInt64.toUInt64 &&& Int64.toUInt64 63)).toInt64) &&& (6148914691236517205 : Int64))).toUInt64 >>> ((2 : Int32).toInt64.toUInt64 &&& Int64.toUInt64 63)).toInt64) &&& (3689348814741910323 : Int64))).toUInt64 >>> ((4 : Int32).toInt64.toUInt64 &&& Int64.toUInt64 63)).toInt64)) &&& (1085102592571150095 : Int64)).toUInt64 >>> ((8 : Int32).toInt64.toUInt64 &&& Int64.toUInt64 63)).toInt64)) + ((((((((p0 - (((p0.toUInt64 >>> ((1 : Int32).toInt64.toUInt64 &&& Int64.toUInt64 63)).toInt64) &&& (6148914691236517205 : Int64))) &&& (3689348814741910323 : Int64)) + ((((p0 - (((p0.toUInt64 >>> ((1 : Int32).toInt64.toUInt64 &&& Int64.toUInt64 63)).toInt64) &&& (6148914691236517205 : Int64))).toUInt64 >>> ((2 : Int32).toInt64.toUInt64 &&& Int64.toUInt64 63)).toInt64) &&& (3689348814741910323 : Int64))) + (((((p0 - (((p0.toUInt64 >>> ((1 : Int32).toInt64.toUInt64 &&& Int64.toUInt64 63)).toInt64) &&& (6148914691236517205 : Int64))) &&& (3689348814741910323 : Int64)) + ((((p0 - (((p0.toUInt64 >>> ((1 : Int32).toInt64.toUInt64 &&& Int64.toUInt64 63)).toInt64) &&& (6148914691236517205 : Int64))).toUInt64 >>> ((2 : Int32).toInt64.toUInt64 &&& Int64.toUInt64 63)).toInt64) &&& (3689348814741910323 : Int64))).toUInt64 >>> ((4 : Int32).toInt64.toUInt64 &&& Int64.toUInt64 63)).toInt64)) &&& (1085102592571150095 : Int64)) + (((((((p0 - (((p0.toUInt64 >>> ((1 : Int32).toInt64.toUInt64 &&& Int64.toUInt64 63)).toInt64) &&& (6148914691236517205 : Int64))) &&& (3689348814741910323 : Int64)) + ((((p0 - (((p0.toUInt64 >>> ((1 : Int32).toInt64.toUInt64 &&& Int64.toUInt64 63)).toInt64) &&& (6148914691236517205 : Int64))).toUInt64 >>> ((2 : Int32).toInt64.toUInt64 &&& Int64.toUInt64 63)).toInt64) &&& (3689348814741910323 : Int64))) + (((((p0 - (((p0.toUInt64 >>> ((1 : Int32).toInt64.toUInt64 &&& Int64.toUInt64 63)).toInt64) &&& (6148914691236517205 : Int64))) &&& (3689348814741910323 : Int64)) + ((((p0 - (((p0.toUInt64 >>> ((1 : Int32).toInt64.toUInt64 &&& Int64.toUInt64 63)).toInt64) &&& (6148914691236517205 : Int64))).toUInt64 >>> ((2 : Int32).toInt64.toUInt64 &&& Int64.toUInt64 63)).toInt64) &&& (3689348814741910323 : Int64))).toUInt64 >>> ((4 : Int32).toInt64.toUInt64 &&& Int64.toUInt64 63)).toInt64)) &&& (1085102592571150095 : Int64)).toUInt64 >>> ((8 : Int32).toInt64.toUInt64 &&& Int64.toUInt64 63)).toInt64)).toUInt64 >>> ((16 : Int32).toInt64.toUInt64 &&& Int64.toUInt64 63)).toInt64)).toUInt64 >>> ((32 : Int32).toInt64.toUInt64 &&& Int64.toUInt64 63)).toInt64)).toInt32) &&& (127 : Int32)), (), rfl, (by subst hR; rfl), by rw [ht]; exact hP9, va_K.moved hW.alike hK, hD9⟩, hS.F ht⟩) hS.2.2 dJ13_bitCount_95d88_60

set_option maxHeartbeats 8000000 in
set_option maxRecDepth 100000 in
theorem mJ7_fill_53178 (l : Launch) (G : va_G) (tt : Nat → ClassId) (sz : Nat) (K : Nat) (n : Nat) (ag0 : Nat) (vg0 : Nat → Int32) (p1 : Int32) (RR : (Nat → Int32)) (hF : fJ7_fill_53178 K n p1 vg0 = some RR) : Met l yJ7_fill_53178 wsJ7_fill_53178 ({ frames := 0, cells := 0, slots := 0, locals := 0 } : Room) (zPre G (zTy tt) [.ref ag0, .int p1] sz [(ag0, .inl (tt 0, n, .inl vg0))]) (va_Qv (fun u : (Nat → Int32) => u = RR) (zAt G (zTy tt) (va_A [(ag0, .inl (tt 0, n, .inl vg0))] sz) (fun u : (Nat → Int32) => [(ag0, .inl (tt 0, n, .inl u))])) (va_A [(ag0, .inl (tt 0, n, .inl vg0))] sz)) 0 0 (va_A [(ag0, .inl (tt 0, n, .inl vg0))] sz) := by
  refine Met.ofW (cc := cJ7_fill_53178) (maxL := 4) (ret := none) (by decide +kernel) rfl ?_
  intro p e s m args below meth c s₁ B hml hv
  obtain ⟨rfl, hsz, hP, hK, hD0, hN⟩ := hv
  have hx := B.exec
  have hb := B.bytes
  have hr := B.returns
  have hts := atoms_spec (ws := wsJ7_fill_53178) B.pre
  have hown : s.vm.findClass RJ7 = some m.cls := findClass_of_methodNamed B.named
  have hlocks := B.notSynchronized
  subst hsz
  have hD := hD0.self (sz := s.heap.size)
  generalize hAe : va_A [(ag0, .inl (tt 0, n, .inl vg0))] s.heap.size = A at hD ⊢
  have hA : ∀ q : Nat, s.heap.size ≤ q → A q := fun q h => by rw [← hAe]; exact Or.inr h
  have hP : va_P G vwCl [(ag0, .inl (tt 0, n, .inl vg0))] s.heap := hP
  have hl := lv_entry ([.ref ag0, .int p1]) (n := 4) (Nat.le_of_ble_eq_true rfl)
  rw [lg_entry_eq]
  generalize (lg_sl ([.ref ag0, .int p1]) ++ List.replicate (4 - (lg_sl ([.ref ag0, .int p1])).length) Slot.unset).toArray = ls at hl ⊢
  have hl : lv_has ls 4 [(0, .ref ag0), (1, .int p1)] := hl
  have hb5 : ∀ (k5 : Nat) (x2 : Int32) (x3 : Int32) (vg0 : Nat → Int32) (H : Heap) (locs : List Loc) (ls : Array Slot), fJ7_fill_53178_5 K n p1 k5 x2 x3 vg0 = some RR → va_P G vwCl [(ag0, .inl (tt 0, n, .inl vg0))] H → va_D A [(ag0, .inl (tt 0, n, .inl vg0))] → va_S A s.heap H locs → lv_has ls 4 [(0, .ref ag0), (1, .int p1), (2, .int x2), (3, .int x3)] → W p l e (headSpec wsJ7_fill_53178 ({ frames := 0, cells := 0, slots := 0, locals := 0 } : Room)).room s m ([.ref ag0, .int p1] : List Value).toArray below meth c H locs 0 0 (MQ below (va_Qv (fun u : (Nat → Int32) => u = RR) (zAt G (zTy tt) A (fun u : (Nat → Int32) => [(ag0, .inl (tt 0, n, .inl u))])) A) ([.ref ag0, .int p1] : List Value).toArray s 0 0 A) (F0 m 5 ls []) := by
    intro k5
    induction k5 with
    | zero => intro x2 x3 vg0 H locs ls hF; rw [fJ7_fill_53178_5] at hF; cases hF
    | succ k5 ih5 =>
      intro x2 x3 vg0 H locs ls hF hP hD hS hl
      rw [fJ7_fill_53178_5] at hF
      refine lv_iload_n hx hb dJ7_fill_53178_5 rfl (lv_at hl 2 rfl) ?_
      refine lv_iload_n hx hb dJ7_fill_53178_6 rfl (lv_at hl 3 rfl) ?_
      refine lv_icmp_ge (tgt := 20) hx hb dJ7_fill_53178_7 (by decide) (fun c_7 => ?_) (fun c_7 => ?_)
      · have hF := z_t c_7 hF
        have hPD : zPD G A [(ag0, .inl (tt 0, n, .inl vg0))] H := ⟨hP.sub [0] rfl, hD.sub [0] (by decide +kernel) rfl⟩
        have hP9 := hPD.1
        have hD9 := hPD.2
        have hR := Option.some.inj hF
        exact W.vret hx hb hr (fun t ht hW => ⟨⟨(vg0), rfl, (by subst hR; rfl), by rw [ht]; exact hP9, va_K.moved hW.alike hK, hD9⟩, hS.F ht⟩) hS.2.2 dJ7_fill_53178_20
      · have hF := z_f c_7 hF
        refine lv_aload_n hx hb dJ7_fill_53178_10 rfl (lv_at hl 0 rfl) ?_
        refine lv_iload_n hx hb dJ7_fill_53178_11 rfl (lv_at hl 2 rfl) ?_
        refine lv_iload_n hx hb dJ7_fill_53178_12 rfl (lv_at hl 1 rfl) ?_
        obtain ⟨h_13, hF⟩ := z_in hF
        refine va_iast hx hb hK hP hD hS 0 0 rfl rfl h_13 dJ7_fill_53178_13 (fun H locs hP hD hS => ?_)
        refine lv_iinc (v := (x2 + (1 : Int32))) (lv' := [(2, .int (x2 + (1 : Int32))), (0, .ref ag0), (1, .int p1), (3, .int x3)]) hx hb dJ7_fill_53178_14 hl (k := 2) rfl rfl (by decide) rfl (fun ls hl => ?_)
        refine lv_goto (tgt := 5) hx hb dJ7_fill_53178_17 (by decide) ?_
        exact ih5 _ _ _ _ _ _ hF hP hD hS (lv_sub hl [1, 2, 0, 3] rfl)
  obtain ⟨H, hHe⟩ : ∃ H : Heap, s.heap = H := ⟨_, rfl⟩
  have hS : va_S A s.heap H [] := by rw [← hHe]; exact va_S.rf
  rw [hHe] at hP ⊢
  unfold fJ7_fill_53178 at hF
  refine lv_iconst (v := (0 : Int32)) hx hb dJ7_fill_53178_0 (by decide) ?_
  refine lv_istore_n (lv' := [(2, .int (0 : Int32)), (0, .ref ag0), (1, .int p1)]) hx hb dJ7_fill_53178_1 rfl hl (by decide) rfl (fun ls hl => ?_)
  refine lv_aload_n hx hb dJ7_fill_53178_2 rfl (lv_at hl 1 rfl) ?_
  refine va_alen (v := (Int32.ofNat n)) hx hb hK hP 0 0 rfl rfl (by first | rfl | decide) dJ7_fill_53178_3 ?_
  refine lv_istore_n (lv' := [(3, .int (Int32.ofNat n)), (2, .int (0 : Int32)), (0, .ref ag0), (1, .int p1)]) hx hb dJ7_fill_53178_4 rfl hl (by decide) rfl (fun ls hl => ?_)
  exact hb5 K _ _ _ _ _ _ hF hP hD hS (lv_sub hl [2, 3, 1, 0] rfl)

set_option maxHeartbeats 8000000 in
set_option maxRecDepth 100000 in
theorem mJ7_fill_d0a16 (l : Launch) (G : va_G) (tt : Nat → ClassId) (sz : Nat) (K : Nat) (n : Nat) (ag0 : Nat) (vg0 : Nat → Int64) (p1 : Int64) (RR : (Nat → Int64)) (hF : fJ7_fill_d0a16 K n p1 vg0 = some RR) : Met l yJ7_fill_d0a16 wsJ7_fill_d0a16 ({ frames := 0, cells := 0, slots := 0, locals := 0 } : Room) (zPre G (zTy tt) [.ref ag0, .long p1] sz [(ag0, .inl (tt 1, n, .inr (.inl vg0)))]) (va_Qv (fun u : (Nat → Int64) => u = RR) (zAt G (zTy tt) (va_A [(ag0, .inl (tt 1, n, .inr (.inl vg0)))] sz) (fun u : (Nat → Int64) => [(ag0, .inl (tt 1, n, .inr (.inl u)))])) (va_A [(ag0, .inl (tt 1, n, .inr (.inl vg0)))] sz)) 0 0 (va_A [(ag0, .inl (tt 1, n, .inr (.inl vg0)))] sz) := by
  refine Met.ofW (cc := cJ7_fill_d0a16) (maxL := 5) (ret := none) (by decide +kernel) rfl ?_
  intro p e s m args below meth c s₁ B hml hv
  obtain ⟨rfl, hsz, hP, hK, hD0, hN⟩ := hv
  have hx := B.exec
  have hb := B.bytes
  have hr := B.returns
  have hts := atoms_spec (ws := wsJ7_fill_d0a16) B.pre
  have hown : s.vm.findClass RJ7 = some m.cls := findClass_of_methodNamed B.named
  have hlocks := B.notSynchronized
  subst hsz
  have hD := hD0.self (sz := s.heap.size)
  generalize hAe : va_A [(ag0, .inl (tt 1, n, .inr (.inl vg0)))] s.heap.size = A at hD ⊢
  have hA : ∀ q : Nat, s.heap.size ≤ q → A q := fun q h => by rw [← hAe]; exact Or.inr h
  have hP : va_P G vwCl [(ag0, .inl (tt 1, n, .inr (.inl vg0)))] s.heap := hP
  have hl := lv_entry ([.ref ag0, .long p1]) (n := 5) (Nat.le_of_ble_eq_true rfl)
  rw [lg_entry_eq]
  generalize (lg_sl ([.ref ag0, .long p1]) ++ List.replicate (5 - (lg_sl ([.ref ag0, .long p1])).length) Slot.unset).toArray = ls at hl ⊢
  have hl : lv_has ls 5 [(0, .ref ag0), (1, .long p1)] := hl
  have hb6 : ∀ (k6 : Nat) (x3 : Int32) (x4 : Int32) (vg0 : Nat → Int64) (H : Heap) (locs : List Loc) (ls : Array Slot), fJ7_fill_d0a16_6 K n p1 k6 x3 x4 vg0 = some RR → va_P G vwCl [(ag0, .inl (tt 1, n, .inr (.inl vg0)))] H → va_D A [(ag0, .inl (tt 1, n, .inr (.inl vg0)))] → va_S A s.heap H locs → lv_has ls 5 [(0, .ref ag0), (1, .long p1), (3, .int x3), (4, .int x4)] → W p l e (headSpec wsJ7_fill_d0a16 ({ frames := 0, cells := 0, slots := 0, locals := 0 } : Room)).room s m ([.ref ag0, .long p1] : List Value).toArray below meth c H locs 0 0 (MQ below (va_Qv (fun u : (Nat → Int64) => u = RR) (zAt G (zTy tt) A (fun u : (Nat → Int64) => [(ag0, .inl (tt 1, n, .inr (.inl u)))])) A) ([.ref ag0, .long p1] : List Value).toArray s 0 0 A) (F0 m 6 ls []) := by
    intro k6
    induction k6 with
    | zero => intro x3 x4 vg0 H locs ls hF; rw [fJ7_fill_d0a16_6] at hF; cases hF
    | succ k6 ih6 =>
      intro x3 x4 vg0 H locs ls hF hP hD hS hl
      rw [fJ7_fill_d0a16_6] at hF
      refine lv_iload_n hx hb dJ7_fill_d0a16_6 rfl (lv_at hl 2 rfl) ?_
      refine lv_iload hx hb dJ7_fill_d0a16_7 (lv_at hl 3 rfl) ?_
      refine lv_icmp_ge (tgt := 22) hx hb dJ7_fill_d0a16_9 (by decide) (fun c_9 => ?_) (fun c_9 => ?_)
      · have hF := z_t c_9 hF
        have hPD : zPD G A [(ag0, .inl (tt 1, n, .inr (.inl vg0)))] H := ⟨hP.sub [0] rfl, hD.sub [0] (by decide +kernel) rfl⟩
        have hP9 := hPD.1
        have hD9 := hPD.2
        have hR := Option.some.inj hF
        exact W.vret hx hb hr (fun t ht hW => ⟨⟨(vg0), rfl, (by subst hR; rfl), by rw [ht]; exact hP9, va_K.moved hW.alike hK, hD9⟩, hS.F ht⟩) hS.2.2 dJ7_fill_d0a16_22
      · have hF := z_f c_9 hF
        refine lv_aload_n hx hb dJ7_fill_d0a16_12 rfl (lv_at hl 0 rfl) ?_
        refine lv_iload_n hx hb dJ7_fill_d0a16_13 rfl (lv_at hl 2 rfl) ?_
        refine lv_lload_n hx hb dJ7_fill_d0a16_14 rfl (lv_at hl 1 rfl) ?_
        obtain ⟨h_15, hF⟩ := z_in hF
        refine va_last hx hb hK hP hD hS 0 1 rfl rfl h_15 dJ7_fill_d0a16_15 (fun H locs hP hD hS => ?_)
        refine lv_iinc (v := (x3 + (1 : Int32))) (lv' := [(3, .int (x3 + (1 : Int32))), (0, .ref ag0), (1, .long p1), (4, .int x4)]) hx hb dJ7_fill_d0a16_16 hl (k := 2) rfl rfl (by decide) rfl (fun ls hl => ?_)
        refine lv_goto (tgt := 6) hx hb dJ7_fill_d0a16_19 (by decide) ?_
        exact ih6 _ _ _ _ _ _ hF hP hD hS (lv_sub hl [1, 2, 0, 3] rfl)
  obtain ⟨H, hHe⟩ : ∃ H : Heap, s.heap = H := ⟨_, rfl⟩
  have hS : va_S A s.heap H [] := by rw [← hHe]; exact va_S.rf
  rw [hHe] at hP ⊢
  unfold fJ7_fill_d0a16 at hF
  refine lv_iconst (v := (0 : Int32)) hx hb dJ7_fill_d0a16_0 (by decide) ?_
  refine lv_istore_n (lv' := [(3, .int (0 : Int32)), (0, .ref ag0), (1, .long p1)]) hx hb dJ7_fill_d0a16_1 rfl hl (by decide) rfl (fun ls hl => ?_)
  refine lv_aload_n hx hb dJ7_fill_d0a16_2 rfl (lv_at hl 1 rfl) ?_
  refine va_alen (v := (Int32.ofNat n)) hx hb hK hP 0 1 rfl rfl (by first | rfl | decide) dJ7_fill_d0a16_3 ?_
  refine lv_istore (lv' := [(4, .int (Int32.ofNat n)), (3, .int (0 : Int32)), (0, .ref ag0), (1, .long p1)]) hx hb dJ7_fill_d0a16_4 hl (by decide) rfl (fun ls hl => ?_)
  exact hb6 K _ _ _ _ _ _ hF hP hD hS (lv_sub hl [2, 3, 1, 0] rfl)

set_option maxHeartbeats 8000000 in
set_option maxRecDepth 100000 in
theorem mX6_fill (l : Launch) (G : va_G) (tt : Nat → ClassId) (sz : Nat) (K : Nat) (n : Nat) (ah : Nat) (ah_cells : Nat) (vh_cells : Nat → Int32) (p1 : Int32) (RR : (Nat → Int32)) (hF : fX6_fill K n p1 vh_cells = some RR) : Met l yX6_fill wsX6_fill ({ frames := 1, cells := 0, slots := 0, locals := 23 } : Room) (zPre G (zTy tt) [.ref ah, .int p1] sz [(ah, .inr (5, [.ref ah_cells])), (ah_cells, .inl (tt 0, n, .inl vh_cells))]) (va_Qv (fun u : (Nat → Int32) => u = RR) (zAt G (zTy tt) (va_A [(ah, .inr (5, [.ref ah_cells])), (ah_cells, .inl (tt 0, n, .inl vh_cells))] sz) (fun u : (Nat → Int32) => [(ah, .inr (5, [.ref ah_cells])), (ah_cells, .inl (tt 0, n, .inl u))])) (va_A [(ah, .inr (5, [.ref ah_cells])), (ah_cells, .inl (tt 0, n, .inl vh_cells))] sz)) 0 0 (va_A [(ah, .inr (5, [.ref ah_cells])), (ah_cells, .inl (tt 0, n, .inl vh_cells))] sz) := by
  refine Met.ofW (cc := cX6_fill) (maxL := 2) (ret := none) (by decide +kernel) rfl ?_
  intro p e s m args below meth c s₁ B hml hv
  obtain ⟨rfl, hsz, hP, hK, hD0, hN⟩ := hv
  have hx := B.exec
  have hb := B.bytes
  have hr := B.returns
  have hts := atoms_spec (ws := wsX6_fill) B.pre
  have hown : s.vm.findClass RX6 = some m.cls := findClass_of_methodNamed B.named
  have hlocks := B.notSynchronized
  subst hsz
  have hD := hD0.self (sz := s.heap.size)
  generalize hAe : va_A [(ah, .inr (5, [.ref ah_cells])), (ah_cells, .inl (tt 0, n, .inl vh_cells))] s.heap.size = A at hD ⊢
  have hA : ∀ q : Nat, s.heap.size ≤ q → A q := fun q h => by rw [← hAe]; exact Or.inr h
  have hP : va_P G vwCl [(ah, .inr (5, [.ref ah_cells])), (ah_cells, .inl (tt 0, n, .inl vh_cells))] s.heap := hP
  have hiX6 : ∀ w ∈ wsX60, w ∈ wsX6_fill := by decide +kernel
  have hl := lv_entry ([.ref ah, .int p1]) (n := 2) (Nat.le_of_ble_eq_true rfl)
  rw [lg_entry_eq]
  generalize (lg_sl ([.ref ah, .int p1]) ++ List.replicate (2 - (lg_sl ([.ref ah, .int p1])).length) Slot.unset).toArray = ls at hl ⊢
  have hl : lv_has ls 2 [(0, .ref ah), (1, .int p1)] := hl
  obtain ⟨H, hHe⟩ : ∃ H : Heap, s.heap = H := ⟨_, rfl⟩
  have hS : va_S A s.heap H [] := by rw [← hHe]; exact va_S.rf
  rw [hHe] at hP ⊢
  unfold fX6_fill at hF
  refine lv_aload_n hx hb dX6_fill_0 rfl (lv_at hl 0 rfl) ?_
  refine va_get (D := G) (ci := 5) (v := .ref ah_cells) (C := RX6) (T := TX6) (N := 1) hx hb hts hiX6 hown hK hP 0 rfl rfl 0 (by decide) (hts (.fieldLink RX6 7 "LeapTables$Ints" "cells" "[I") (List.mem_of_getElem? (i := 1) rfl)) (fun _ h9 => h9) rfl dX6_fill_1 ?_
  refine lv_iload_n hx hb dX6_fill_4 rfl (lv_at hl 1 rfl) ?_
  obtain ⟨q5, hc_5, hF⟩ := z_bind hF
  refine z_backv (wr := [(ah, .inr (5, [.ref ah_cells]))]) (z_goS (wc := [(ah_cells, .inl (tt 0, n, .inl vh_cells))]) (As := [.ref ah_cells, .int p1]) (rest := []) ⟨hx, hb, hml, hown, hts⟩ hK hN hP hD (mJ7_fill_53178 l G tt H.size K n ah_cells vh_cells p1 q5 hc_5) (va_cwS 2 hts gX6_fill_J7_fill_53178 rfl rfl rfl (by decide +kernel) ⟨Nat.le_of_ble_eq_true rfl, Nat.le_of_ble_eq_true rfl⟩) [1] rfl (by decide +kernel) rfl hl.1 rfl (Nat.le_of_ble_eq_true rfl) dX6_fill_5 ⟨Nat.zero_le _, Nat.zero_le _⟩) hP hD hS hA [1] [0] rfl rfl (by decide +kernel) (by decide +kernel) (fun u H locs hw hP hD hS => ?_)
  replace hw := hw.symm; subst hw
  have hPD : zPD G A [(ah, .inr (5, [.ref ah_cells])), (ah_cells, .inl (tt 0, n, .inl q5))] H := ⟨hP.sub [0, 1] rfl, hD.sub [0, 1] (by decide +kernel) rfl⟩
  have hP9 := hPD.1
  have hD9 := hPD.2
  have hR := Option.some.inj hF
  exact W.vret hx hb hr (fun t ht hW => ⟨⟨(q5), rfl, (by subst hR; rfl), by rw [ht]; exact hP9, va_K.moved hW.alike hK, hD9⟩, hS.F ht⟩) hS.2.2 dX6_fill_8

set_option maxHeartbeats 8000000 in
set_option maxRecDepth 100000 in
theorem mX7_clear (l : Launch) (G : va_G) (tt : Nat → ClassId) (sz : Nat) (K : Nat) (ah : Nat) (ah_words : Nat) (vh_words : Nat → Int64) (RR : (Nat → Int64)) (hF : fX7_clear K vh_words = some RR) : Met l yX7_clear wsX7_clear ({ frames := 1, cells := 0, slots := 0, locals := 24 } : Room) (zPre G (zTy tt) [.ref ah] sz [(ah, .inr (6, [.ref ah_words])), (ah_words, .inl (tt 1, 40, .inr (.inl vh_words)))]) (va_Qv (fun u : (Nat → Int64) => u = RR) (zAt G (zTy tt) (va_A [(ah, .inr (6, [.ref ah_words])), (ah_words, .inl (tt 1, 40, .inr (.inl vh_words)))] sz) (fun u : (Nat → Int64) => [(ah, .inr (6, [.ref ah_words])), (ah_words, .inl (tt 1, 40, .inr (.inl u)))])) (va_A [(ah, .inr (6, [.ref ah_words])), (ah_words, .inl (tt 1, 40, .inr (.inl vh_words)))] sz)) 0 0 (va_A [(ah, .inr (6, [.ref ah_words])), (ah_words, .inl (tt 1, 40, .inr (.inl vh_words)))] sz) := by
  refine Met.ofW (cc := cX7_clear) (maxL := 1) (ret := none) (by decide +kernel) rfl ?_
  intro p e s m args below meth c s₁ B hml hv
  obtain ⟨rfl, hsz, hP, hK, hD0, hN⟩ := hv
  have hx := B.exec
  have hb := B.bytes
  have hr := B.returns
  have hts := atoms_spec (ws := wsX7_clear) B.pre
  have hown : s.vm.findClass RX7 = some m.cls := findClass_of_methodNamed B.named
  have hlocks := B.notSynchronized
  subst hsz
  have hD := hD0.self (sz := s.heap.size)
  generalize hAe : va_A [(ah, .inr (6, [.ref ah_words])), (ah_words, .inl (tt 1, 40, .inr (.inl vh_words)))] s.heap.size = A at hD ⊢
  have hA : ∀ q : Nat, s.heap.size ≤ q → A q := fun q h => by rw [← hAe]; exact Or.inr h
  have hP : va_P G vwCl [(ah, .inr (6, [.ref ah_words])), (ah_words, .inl (tt 1, 40, .inr (.inl vh_words)))] s.heap := hP
  have hiX7 : ∀ w ∈ wsX70, w ∈ wsX7_clear := by decide +kernel
  have hl := lv_entry ([.ref ah]) (n := 1) (Nat.le_of_ble_eq_true rfl)
  rw [lg_entry_eq]
  generalize (lg_sl ([.ref ah]) ++ List.replicate (1 - (lg_sl ([.ref ah])).length) Slot.unset).toArray = ls at hl ⊢
  have hl : lv_has ls 1 [(0, .ref ah)] := hl
  obtain ⟨H, hHe⟩ : ∃ H : Heap, s.heap = H := ⟨_, rfl⟩
  have hS : va_S A s.heap H [] := by rw [← hHe]; exact va_S.rf
  rw [hHe] at hP ⊢
  unfold fX7_clear at hF
  refine lv_aload_n hx hb dX7_clear_0 rfl (lv_at hl 0 rfl) ?_
  refine va_get (D := G) (ci := 6) (v := .ref ah_words) (C := RX7) (T := TX7) (N := 1) hx hb hts hiX7 hown hK hP 0 rfl rfl 0 (by decide) (hts (.fieldLink RX7 9 "LeapTables$Rows" "words" "[J") (List.mem_of_getElem? (i := 1) rfl)) (fun _ h9 => h9) rfl dX7_clear_1 ?_
  refine lv_lconst (v := (0 : Int64)) hx hb dX7_clear_4 (by decide) ?_
  obtain ⟨q5, hc_5, hF⟩ := z_bind hF
  refine z_backv (wr := [(ah, .inr (6, [.ref ah_words]))]) (z_goS (wc := [(ah_words, .inl (tt 1, 40, .inr (.inl vh_words)))]) (As := [.ref ah_words, .long (0 : Int64)]) (rest := []) ⟨hx, hb, hml, hown, hts⟩ hK hN hP hD (mJ7_fill_d0a16 l G tt H.size K 40 ah_words vh_words (0 : Int64) q5 hc_5) (va_cwS 2 hts gX7_clear_J7_fill_d0a16 rfl rfl rfl (by decide +kernel) ⟨Nat.le_of_ble_eq_true rfl, Nat.le_of_ble_eq_true rfl⟩) [1] rfl (by decide +kernel) rfl hl.1 rfl (Nat.le_of_ble_eq_true rfl) dX7_clear_5 ⟨Nat.zero_le _, Nat.zero_le _⟩) hP hD hS hA [1] [0] rfl rfl (by decide +kernel) (by decide +kernel) (fun u H locs hw hP hD hS => ?_)
  replace hw := hw.symm; subst hw
  have hPD : zPD G A [(ah, .inr (6, [.ref ah_words])), (ah_words, .inl (tt 1, 40, .inr (.inl q5)))] H := ⟨hP.sub [0, 1] rfl, hD.sub [0, 1] (by decide +kernel) rfl⟩
  have hP9 := hPD.1
  have hD9 := hPD.2
  have hR := Option.some.inj hF
  exact W.vret hx hb hr (fun t ht hW => ⟨⟨(q5), rfl, (by subst hR; rfl), by rw [ht]; exact hP9, va_K.moved hW.alike hK, hD9⟩, hS.F ht⟩) hS.2.2 dX7_clear_8

set_option maxHeartbeats 8000000 in
set_option maxRecDepth 100000 in
theorem mX7_size (l : Launch) (G : va_G) (tt : Nat → ClassId) (sz : Nat) (K : Nat) (ah : Nat) (ah_words : Nat) (vh_words : Nat → Int64) (p1 : Int32) (RR : Int32) (hF : fX7_size K vh_words p1 = some RR) : Met l yX7_size wsX7_size ({ frames := 1, cells := 0, slots := 0, locals := 23 } : Room) (zPre G (zTy tt) [.ref ah, .int p1] sz [(ah, .inr (6, [.ref ah_words])), (ah_words, .inl (tt 1, 40, .inr (.inl vh_words)))]) (va_Qi (fun (r : Int32) (_ : Unit) => r = RR) (zAt G (zTy tt) (va_A [(ah, .inr (6, [.ref ah_words])), (ah_words, .inl (tt 1, 40, .inr (.inl vh_words)))] sz) (fun _ : Unit => [(ah, .inr (6, [.ref ah_words])), (ah_words, .inl (tt 1, 40, .inr (.inl vh_words)))])) (va_A [(ah, .inr (6, [.ref ah_words])), (ah_words, .inl (tt 1, 40, .inr (.inl vh_words)))] sz)) 0 0 (va_A [(ah, .inr (6, [.ref ah_words])), (ah_words, .inl (tt 1, 40, .inr (.inl vh_words)))] sz) := by
  refine Met.ofW (cc := cX7_size) (maxL := 4) (ret := (some .int)) (by decide +kernel) rfl ?_
  intro p e s m args below meth c s₁ B hml hv
  obtain ⟨rfl, hsz, hP, hK, hD0, hN⟩ := hv
  have hx := B.exec
  have hb := B.bytes
  have hr := B.returns
  have hts := atoms_spec (ws := wsX7_size) B.pre
  have hown : s.vm.findClass RX7 = some m.cls := findClass_of_methodNamed B.named
  have hlocks := B.notSynchronized
  subst hsz
  have hD := hD0.self (sz := s.heap.size)
  generalize hAe : va_A [(ah, .inr (6, [.ref ah_words])), (ah_words, .inl (tt 1, 40, .inr (.inl vh_words)))] s.heap.size = A at hD ⊢
  have hA : ∀ q : Nat, s.heap.size ≤ q → A q := fun q h => by rw [← hAe]; exact Or.inr h
  have hP : va_P G vwCl [(ah, .inr (6, [.ref ah_words])), (ah_words, .inl (tt 1, 40, .inr (.inl vh_words)))] s.heap := hP
  have hl := lv_entry ([.ref ah, .int p1]) (n := 4) (Nat.le_of_ble_eq_true rfl)
  rw [lg_entry_eq]
  generalize (lg_sl ([.ref ah, .int p1]) ++ List.replicate (4 - (lg_sl ([.ref ah, .int p1])).length) Slot.unset).toArray = ls at hl ⊢
  have hl : lv_has ls 4 [(0, .ref ah), (1, .int p1)] := hl
  have hb4 : ∀ (k4 : Nat) (x2 : Int32) (x3 : Int32) (H : Heap) (locs : List Loc) (ls : Array Slot), fX7_size_4 K vh_words p1 k4 x2 x3 = some RR → va_P G vwCl [(ah, .inr (6, [.ref ah_words])), (ah_words, .inl (tt 1, 40, .inr (.inl vh_words)))] H → va_D A [(ah, .inr (6, [.ref ah_words])), (ah_words, .inl (tt 1, 40, .inr (.inl vh_words)))] → va_S A s.heap H locs → lv_has ls 4 [(0, .ref ah), (1, .int p1), (2, .int x2), (3, .int x3)] → W p l e (headSpec wsX7_size ({ frames := 1, cells := 0, slots := 0, locals := 23 } : Room)).room s m ([.ref ah, .int p1] : List Value).toArray below meth c H locs 0 0 (MQ below (va_Qi (fun (r : Int32) (_ : Unit) => r = RR) (zAt G (zTy tt) A (fun _ : Unit => [(ah, .inr (6, [.ref ah_words])), (ah_words, .inl (tt 1, 40, .inr (.inl vh_words)))])) A) ([.ref ah, .int p1] : List Value).toArray s 0 0 A) (F0 m 4 ls []) := by
    intro k4
    induction k4 with
    | zero => intro x2 x3 H locs ls hF; rw [fX7_size_4] at hF; cases hF
    | succ k4 ih4 =>
      intro x2 x3 H locs ls hF hP hD hS hl
      rw [fX7_size_4] at hF
      refine lv_iload_n hx hb dX7_size_4 rfl (lv_at hl 3 rfl) ?_
      refine lv_bipush (v := (8 : Int32)) hx hb dX7_size_5 (by decide) ?_
      refine lv_icmp_ge (tgt := 28) hx hb dX7_size_7 (by decide) (fun c_7 => ?_) (fun c_7 => ?_)
      · have hF := z_t c_7 hF
        refine lv_iload_n hx hb dX7_size_28 rfl (lv_at hl 2 rfl) ?_
        have hPD : zPD G A [(ah, .inr (6, [.ref ah_words])), (ah_words, .inl (tt 1, 40, .inr (.inl vh_words)))] H := ⟨hP.sub [0, 1] rfl, hD.sub [0, 1] (by decide +kernel) rfl⟩
        have hP9 := hPD.1
        have hD9 := hPD.2
        have hR := Option.some.inj hF
        exact W.iret (v := x2) hx hb hr (fun t ht hW => ⟨⟨x2, (), rfl, (by subst hR; rfl), by rw [ht]; exact hP9, va_K.moved hW.alike hK, hD9⟩, hS.F ht⟩) hS.2.2 dX7_size_29
      · have hF := z_f c_7 hF
        refine lv_iload_n hx hb dX7_size_10 rfl (lv_at hl 2 rfl) ?_
        refine lv_aload_n hx hb dX7_size_11 rfl (lv_at hl 0 rfl) ?_
        refine lv_iload_n hx hb dX7_size_12 rfl (lv_at hl 1 rfl) ?_
        refine lv_iload_n hx hb dX7_size_13 rfl (lv_at hl 3 rfl) ?_
        obtain ⟨q14, hc_14, hF⟩ := z_bind hF
        refine z_backl (wr := []) (z_goV (wc := [(ah, .inr (6, [.ref ah_words])), (ah_words, .inl (tt 1, 40, .inr (.inl vh_words)))]) (As := [.int p1, .int x3]) (rest := [.int x2]) (ci := 6) ⟨hx, hb, hml, hown, hts⟩ hK hN hP hD (mX7_word l G tt H.size ah ah_words vh_words p1 x3 q14 hc_14) (cwV 2 hts gX7_size_X7_word rfl rfl rfl (by decide +kernel) ⟨Nat.le_of_ble_eq_true rfl, Nat.le_of_ble_eq_true rfl⟩) [0, 1] rfl (by decide +kernel) rfl rfl rfl hl.1 rfl (Nat.le_of_ble_eq_true rfl) dX7_size_14 ⟨Nat.zero_le _, Nat.zero_le _⟩) hP hD hS hA [0, 1] [] rfl rfl (by decide +kernel) (by decide +kernel) (fun r u H locs hw hP hD hS => ?_)
        replace hw := hw.symm; subst hw
        obtain ⟨q17, hc_17, hF⟩ := z_bind hF
        refine z_backi (wr := [(ah, .inr (6, [.ref ah_words])), (ah_words, .inl (tt 1, 40, .inr (.inl vh_words)))]) (z_goS (wc := []) (As := [.long q14]) (rest := [.int x2]) ⟨hx, hb, hml, hown, hts⟩ hK hN hP hD (mJ13_bitCount_95d88 l G tt H.size q14 q17 hc_17) (va_cwS 1 hts gX7_size_J13_bitCount_95d88 rfl rfl rfl (by decide +kernel) ⟨Nat.le_of_ble_eq_true rfl, Nat.le_of_ble_eq_true rfl⟩) [] rfl (by decide +kernel) rfl hl.1 rfl (Nat.le_of_ble_eq_true rfl) dX7_size_17 ⟨Nat.zero_le _, Nat.zero_le _⟩) hP hD hS hA [] [0, 1] rfl rfl (by decide +kernel) (by decide +kernel) (fun r u H locs hw hP hD hS => ?_)
        replace hw := hw.symm; subst hw
        refine lv_iadd hx hb dX7_size_20 ?_
        refine lv_istore_n (lv' := [(2, .int (x2 + q17)), (0, .ref ah), (1, .int p1), (3, .int x3)]) hx hb dX7_size_21 rfl hl (by decide) rfl (fun ls hl => ?_)
        refine lv_iinc (v := (x3 + (1 : Int32))) (lv' := [(3, .int (x3 + (1 : Int32))), (2, .int (x2 + q17)), (0, .ref ah), (1, .int p1)]) hx hb dX7_size_22 hl (k := 3) rfl rfl (by decide) rfl (fun ls hl => ?_)
        refine lv_goto (tgt := 4) hx hb dX7_size_25 (by decide) ?_
        exact ih4 _ _ _ _ _ hF hP hD hS (lv_sub hl [2, 3, 1, 0] rfl)
  obtain ⟨H, hHe⟩ : ∃ H : Heap, s.heap = H := ⟨_, rfl⟩
  have hS : va_S A s.heap H [] := by rw [← hHe]; exact va_S.rf
  rw [hHe] at hP ⊢
  unfold fX7_size at hF
  refine lv_iconst (v := (0 : Int32)) hx hb dX7_size_0 (by decide) ?_
  refine lv_istore_n (lv' := [(2, .int (0 : Int32)), (0, .ref ah), (1, .int p1)]) hx hb dX7_size_1 rfl hl (by decide) rfl (fun ls hl => ?_)
  refine lv_iconst (v := (0 : Int32)) hx hb dX7_size_2 (by decide) ?_
  refine lv_istore_n (lv' := [(3, .int (0 : Int32)), (2, .int (0 : Int32)), (0, .ref ah), (1, .int p1)]) hx hb dX7_size_3 rfl hl (by decide) rfl (fun ls hl => ?_)
  exact hb4 K _ _ _ _ _ hF hP hD hS (lv_sub hl [2, 3, 1, 0] rfl)

set_option maxHeartbeats 8000000 in
set_option maxRecDepth 100000 in
theorem mX11_valueIn (l : Launch) (G : va_G) (tt : Nat → ClassId) (sz : Nat) (p0 : Int32) (p1 : Int32) (RR : Int32) (hF : fX11_valueIn p0 p1 = some RR) : Met l yX11_valueIn wsX11_valueIn ({ frames := 0, cells := 0, slots := 0, locals := 0 } : Room) (zPre G (zTy tt) [.int p0, .int p1] sz []) (va_Qi (fun (r : Int32) (_ : Unit) => r = RR) (zAt G (zTy tt) (va_A [] sz) (fun _ : Unit => [])) (va_A [] sz)) 0 0 (va_A [] sz) := by
  refine Met.ofW (cc := cX11_valueIn) (maxL := 2) (ret := (some .int)) (by decide +kernel) rfl ?_
  intro p e s m args below meth c s₁ B hml hv
  obtain ⟨rfl, hsz, hP, hK, hD0, hN⟩ := hv
  have hx := B.exec
  have hb := B.bytes
  have hr := B.returns
  have hts := atoms_spec (ws := wsX11_valueIn) B.pre
  have hown : s.vm.findClass RX11 = some m.cls := findClass_of_methodNamed B.named
  have hlocks := B.notSynchronized
  subst hsz
  have hD := hD0.self (sz := s.heap.size)
  generalize hAe : va_A [] s.heap.size = A at hD ⊢
  have hA : ∀ q : Nat, s.heap.size ≤ q → A q := fun q h => by rw [← hAe]; exact Or.inr h
  have hP : va_P G vwCl [] s.heap := hP
  have hl := lv_entry ([.int p0, .int p1]) (n := 2) (Nat.le_of_ble_eq_true rfl)
  rw [lg_entry_eq]
  generalize (lg_sl ([.int p0, .int p1]) ++ List.replicate (2 - (lg_sl ([.int p0, .int p1])).length) Slot.unset).toArray = ls at hl ⊢
  have hl : lv_has ls 2 [(0, .int p0), (1, .int p1)] := hl
  obtain ⟨H, hHe⟩ : ∃ H : Heap, s.heap = H := ⟨_, rfl⟩
  have hS : va_S A s.heap H [] := by rw [← hHe]; exact va_S.rf
  rw [hHe] at hP ⊢
  unfold fX11_valueIn at hF
  refine lv_iload_n hx hb dX11_valueIn_0 rfl (lv_at hl 1 rfl) ?_
  by_cases e0_1 : p1 = 0
  · have hF := z_t e0_1 hF
    refine lv_lookup (tgt := 28) (off := 27) hx hb dX11_valueIn_1 rfl (by show Op.lookupswitch.offset [(0, 27), (1, 35)] 42 _ = _; rw [z_osy e0_1 (by decide)]) (by decide) ?_
    refine lv_iload_n hx hb dX11_valueIn_28 rfl (lv_at hl 0 rfl) ?_
    refine lv_bipush (v := (6 : Int32)) hx hb dX11_valueIn_29 (by decide) ?_
    refine lv_ishr hx hb dX11_valueIn_31 ?_
    refine lv_bipush (v := (7 : Int32)) hx hb dX11_valueIn_32 (by decide) ?_
    refine lv_iand hx hb dX11_valueIn_34 ?_
    have hPD : zPD G A [] H := ⟨hP.sub [] rfl, hD.sub [] (by decide +kernel) rfl⟩
    have hP9 := hPD.1
    have hD9 := hPD.2
    have hR := Option.some.inj hF
    exact W.iret (v := ((p0 >>> ((6 : Int32) &&& 31)) &&& (7 : Int32))) hx hb hr (fun t ht hW => ⟨⟨((p0 >>> ((6 : Int32) &&& 31)) &&& (7 : Int32)), (), rfl, (by subst hR; rfl), by rw [ht]; exact hP9, va_K.moved hW.alike hK, hD9⟩, hS.F ht⟩) hS.2.2 dX11_valueIn_35
  have hF := z_f e0_1 hF
  by_cases e1_1 : p1 = 1
  · have hF := z_t e1_1 hF
    refine lv_lookup (tgt := 36) (off := 35) hx hb dX11_valueIn_1 rfl (by show Op.lookupswitch.offset [(0, 27), (1, 35)] 42 _ = _; rw [z_osn e0_1 (by decide), z_osy e1_1 (by decide)]) (by decide) ?_
    refine lv_iload_n hx hb dX11_valueIn_36 rfl (lv_at hl 0 rfl) ?_
    refine lv_iconst (v := (3 : Int32)) hx hb dX11_valueIn_37 (by decide) ?_
    refine lv_ishr hx hb dX11_valueIn_38 ?_
    refine lv_bipush (v := (7 : Int32)) hx hb dX11_valueIn_39 (by decide) ?_
    refine lv_iand hx hb dX11_valueIn_41 ?_
    have hPD : zPD G A [] H := ⟨hP.sub [] rfl, hD.sub [] (by decide +kernel) rfl⟩
    have hP9 := hPD.1
    have hD9 := hPD.2
    have hR := Option.some.inj hF
    exact W.iret (v := ((p0 >>> ((3 : Int32) &&& 31)) &&& (7 : Int32))) hx hb hr (fun t ht hW => ⟨⟨((p0 >>> ((3 : Int32) &&& 31)) &&& (7 : Int32)), (), rfl, (by subst hR; rfl), by rw [ht]; exact hP9, va_K.moved hW.alike hK, hD9⟩, hS.F ht⟩) hS.2.2 dX11_valueIn_42
  have hF := z_f e1_1 hF
  refine lv_lookup (tgt := 43) (off := 42) hx hb dX11_valueIn_1 rfl (by show Op.lookupswitch.offset [(0, 27), (1, 35)] 42 _ = _; rw [z_osn e0_1 (by decide), z_osn e1_1 (by decide)]; rfl) (by decide) ?_
  refine lv_iload_n hx hb dX11_valueIn_43 rfl (lv_at hl 0 rfl) ?_
  refine lv_bipush (v := (7 : Int32)) hx hb dX11_valueIn_44 (by decide) ?_
  refine lv_iand hx hb dX11_valueIn_46 ?_
  have hPD : zPD G A [] H := ⟨hP.sub [] rfl, hD.sub [] (by decide +kernel) rfl⟩
  have hP9 := hPD.1
  have hD9 := hPD.2
  have hR := Option.some.inj hF
  exact W.iret (v := (p0 &&& (7 : Int32))) hx hb hr (fun t ht hW => ⟨⟨(p0 &&& (7 : Int32)), (), rfl, (by subst hR; rfl), by rw [ht]; exact hP9, va_K.moved hW.alike hK, hD9⟩, hS.F ht⟩) hS.2.2 dX11_valueIn_47

set_option maxHeartbeats 8000000 in
set_option maxRecDepth 100000 in
theorem mX11_rowOf (l : Launch) (G : va_G) (tt : Nat → ClassId) (sz : Nat) (p0 : Int32) (p1 : Int32) (p2 : Int32) (RR : Int32) (hF : fX11_rowOf p0 p1 p2 = some RR) : Met l yX11_rowOf wsX11_rowOf ({ frames := 0, cells := 0, slots := 0, locals := 0 } : Room) (zPre G (zTy tt) [.int p0, .int p1, .int p2] sz []) (va_Qi (fun (r : Int32) (_ : Unit) => r = RR) (zAt G (zTy tt) (va_A [] sz) (fun _ : Unit => [])) (va_A [] sz)) 0 0 (va_A [] sz) := by
  refine Met.ofW (cc := cX11_rowOf) (maxL := 3) (ret := (some .int)) (by decide +kernel) rfl ?_
  intro p e s m args below meth c s₁ B hml hv
  obtain ⟨rfl, hsz, hP, hK, hD0, hN⟩ := hv
  have hx := B.exec
  have hb := B.bytes
  have hr := B.returns
  have hts := atoms_spec (ws := wsX11_rowOf) B.pre
  have hown : s.vm.findClass RX11 = some m.cls := findClass_of_methodNamed B.named
  have hlocks := B.notSynchronized
  subst hsz
  have hD := hD0.self (sz := s.heap.size)
  generalize hAe : va_A [] s.heap.size = A at hD ⊢
  have hA : ∀ q : Nat, s.heap.size ≤ q → A q := fun q h => by rw [← hAe]; exact Or.inr h
  have hP : va_P G vwCl [] s.heap := hP
  have hl := lv_entry ([.int p0, .int p1, .int p2]) (n := 3) (Nat.le_of_ble_eq_true rfl)
  rw [lg_entry_eq]
  generalize (lg_sl ([.int p0, .int p1, .int p2]) ++ List.replicate (3 - (lg_sl ([.int p0, .int p1, .int p2])).length) Slot.unset).toArray = ls at hl ⊢
  have hl : lv_has ls 3 [(0, .int p0), (1, .int p1), (2, .int p2)] := hl
  obtain ⟨H, hHe⟩ : ∃ H : Heap, s.heap = H := ⟨_, rfl⟩
  have hS : va_S A s.heap H [] := by rw [← hHe]; exact va_S.rf
  rw [hHe] at hP ⊢
  unfold fX11_rowOf at hF
  refine lv_iload_n hx hb dX11_rowOf_0 rfl (lv_at hl 0 rfl) ?_
  refine lv_bipush (v := (6 : Int32)) hx hb dX11_rowOf_1 (by decide) ?_
  refine lv_ishl hx hb dX11_rowOf_3 ?_
  refine lv_iload_n hx hb dX11_rowOf_4 rfl (lv_at hl 1 rfl) ?_
  refine lv_iconst (v := (3 : Int32)) hx hb dX11_rowOf_5 (by decide) ?_
  refine lv_ishl hx hb dX11_rowOf_6 ?_
  refine lv_ior hx hb dX11_rowOf_7 ?_
  refine lv_iload_n hx hb dX11_rowOf_8 rfl (lv_at hl 2 rfl) ?_
  refine lv_ior hx hb dX11_rowOf_9 ?_
  have hPD : zPD G A [] H := ⟨hP.sub [] rfl, hD.sub [] (by decide +kernel) rfl⟩
  have hP9 := hPD.1
  have hD9 := hPD.2
  have hR := Option.some.inj hF
  exact W.iret (v := (((p0 <<< ((6 : Int32) &&& 31)) ||| (p1 <<< ((3 : Int32) &&& 31))) ||| p2)) hx hb hr (fun t ht hW => ⟨⟨(((p0 <<< ((6 : Int32) &&& 31)) ||| (p1 <<< ((3 : Int32) &&& 31))) ||| p2), (), rfl, (by subst hR; rfl), by rw [ht]; exact hP9, va_K.moved hW.alike hK, hD9⟩, hS.F ht⟩) hS.2.2 dX11_rowOf_10

set_option maxHeartbeats 8000000 in
set_option maxRecDepth 100000 in
theorem mX11_digitOf (l : Launch) (G : va_G) (tt : Nat → ClassId) (sz : Nat) (p0 : Int32) (p1 : Int32) (RR : Int32) (hF : fX11_digitOf p0 p1 = some RR) : Met l yX11_digitOf wsX11_digitOf ({ frames := 0, cells := 0, slots := 0, locals := 0 } : Room) (zPre G (zTy tt) [.int p0, .int p1] sz []) (va_Qi (fun (r : Int32) (_ : Unit) => r = RR) (zAt G (zTy tt) (va_A [] sz) (fun _ : Unit => [])) (va_A [] sz)) 0 0 (va_A [] sz) := by
  refine Met.ofW (cc := cX11_digitOf) (maxL := 2) (ret := (some .int)) (by decide +kernel) rfl ?_
  intro p e s m args below meth c s₁ B hml hv
  obtain ⟨rfl, hsz, hP, hK, hD0, hN⟩ := hv
  have hx := B.exec
  have hb := B.bytes
  have hr := B.returns
  have hts := atoms_spec (ws := wsX11_digitOf) B.pre
  have hown : s.vm.findClass RX11 = some m.cls := findClass_of_methodNamed B.named
  have hlocks := B.notSynchronized
  subst hsz
  have hD := hD0.self (sz := s.heap.size)
  generalize hAe : va_A [] s.heap.size = A at hD ⊢
  have hA : ∀ q : Nat, s.heap.size ≤ q → A q := fun q h => by rw [← hAe]; exact Or.inr h
  have hP : va_P G vwCl [] s.heap := hP
  have hl := lv_entry ([.int p0, .int p1]) (n := 2) (Nat.le_of_ble_eq_true rfl)
  rw [lg_entry_eq]
  generalize (lg_sl ([.int p0, .int p1]) ++ List.replicate (2 - (lg_sl ([.int p0, .int p1])).length) Slot.unset).toArray = ls at hl ⊢
  have hl : lv_has ls 2 [(0, .int p0), (1, .int p1)] := hl
  obtain ⟨H, hHe⟩ : ∃ H : Heap, s.heap = H := ⟨_, rfl⟩
  have hS : va_S A s.heap H [] := by rw [← hHe]; exact va_S.rf
  rw [hHe] at hP ⊢
  unfold fX11_digitOf at hF
  refine lv_iload_n hx hb dX11_digitOf_0 rfl (lv_at hl 1 rfl) ?_
  by_cases c_1 : p1.toInt < 0 ∨ 2 < p1.toInt
  · have hF := z_t c_1 hF
    refine lv_tableOut (tgt := 53) hx hb dX11_digitOf_1 c_1 (by decide) ?_
    refine lv_iload_n hx hb dX11_digitOf_53 rfl (lv_at hl 0 rfl) ?_
    refine lv_bipush (v := (10 : Int32)) hx hb dX11_digitOf_54 (by decide) ?_
    refine lv_irem hx hb dX11_digitOf_56 (by decide) ?_
    have hPD : zPD G A [] H := ⟨hP.sub [] rfl, hD.sub [] (by decide +kernel) rfl⟩
    have hP9 := hPD.1
    have hD9 := hPD.2
    have hR := Option.some.inj hF
    exact W.iret (v := (p0 - p0 / (10 : Int32) * (10 : Int32))) hx hb hr (fun t ht hW => ⟨⟨(p0 - p0 / (10 : Int32) * (10 : Int32)), (), rfl, (by subst hR; rfl), by rw [ht]; exact hP9, va_K.moved hW.alike hK, hD9⟩, hS.F ht⟩) hS.2.2 dX11_digitOf_57
  have hF := z_f c_1 hF
  have c1_1 := fun q => c_1 (Or.inl q)
  have c2_1 := fun q => c_1 (Or.inr q)
  by_cases e0_1 : p1.toInt = 0
  · have hF := z_t e0_1 hF
    refine lv_tableIn (tgt := 28) (off := 27) hx hb dX11_digitOf_1 c1_1 c2_1 (by rw [e0_1]; rfl) (by decide) ?_
    refine lv_iload_n hx hb dX11_digitOf_28 rfl (lv_at hl 0 rfl) ?_
    refine lv_sipush (v := (1000 : Int32)) hx hb dX11_digitOf_29 (by decide) ?_
    refine lv_idiv hx hb dX11_digitOf_32 (by decide) ?_
    refine lv_bipush (v := (10 : Int32)) hx hb dX11_digitOf_33 (by decide) ?_
    refine lv_irem hx hb dX11_digitOf_35 (by decide) ?_
    have hPD : zPD G A [] H := ⟨hP.sub [] rfl, hD.sub [] (by decide +kernel) rfl⟩
    have hP9 := hPD.1
    have hD9 := hPD.2
    have hR := Option.some.inj hF
    exact W.iret (v := ((p0 / (1000 : Int32)) - (p0 / (1000 : Int32)) / (10 : Int32) * (10 : Int32))) hx hb hr (fun t ht hW => ⟨⟨((p0 / (1000 : Int32)) - (p0 / (1000 : Int32)) / (10 : Int32) * (10 : Int32)), (), rfl, (by subst hR; rfl), by rw [ht]; exact hP9, va_K.moved hW.alike hK, hD9⟩, hS.F ht⟩) hS.2.2 dX11_digitOf_36
  have hF := z_f e0_1 hF
  by_cases e1_1 : p1.toInt = 1
  · have hF := z_t e1_1 hF
    refine lv_tableIn (tgt := 37) (off := 36) hx hb dX11_digitOf_1 c1_1 c2_1 (by rw [e1_1]; rfl) (by decide) ?_
    refine lv_iload_n hx hb dX11_digitOf_37 rfl (lv_at hl 0 rfl) ?_
    refine lv_bipush (v := (100 : Int32)) hx hb dX11_digitOf_38 (by decide) ?_
    refine lv_idiv hx hb dX11_digitOf_40 (by decide) ?_
    refine lv_bipush (v := (10 : Int32)) hx hb dX11_digitOf_41 (by decide) ?_
    refine lv_irem hx hb dX11_digitOf_43 (by decide) ?_
    have hPD : zPD G A [] H := ⟨hP.sub [] rfl, hD.sub [] (by decide +kernel) rfl⟩
    have hP9 := hPD.1
    have hD9 := hPD.2
    have hR := Option.some.inj hF
    exact W.iret (v := ((p0 / (100 : Int32)) - (p0 / (100 : Int32)) / (10 : Int32) * (10 : Int32))) hx hb hr (fun t ht hW => ⟨⟨((p0 / (100 : Int32)) - (p0 / (100 : Int32)) / (10 : Int32) * (10 : Int32)), (), rfl, (by subst hR; rfl), by rw [ht]; exact hP9, va_K.moved hW.alike hK, hD9⟩, hS.F ht⟩) hS.2.2 dX11_digitOf_44
  have hF := z_f e1_1 hF
  have e2_1 : p1.toInt = 2 := by omega
  refine lv_tableIn (tgt := 45) (off := 44) hx hb dX11_digitOf_1 c1_1 c2_1 (by rw [e2_1]; rfl) (by decide) ?_
  refine lv_iload_n hx hb dX11_digitOf_45 rfl (lv_at hl 0 rfl) ?_
  refine lv_bipush (v := (10 : Int32)) hx hb dX11_digitOf_46 (by decide) ?_
  refine lv_idiv hx hb dX11_digitOf_48 (by decide) ?_
  refine lv_bipush (v := (10 : Int32)) hx hb dX11_digitOf_49 (by decide) ?_
  refine lv_irem hx hb dX11_digitOf_51 (by decide) ?_
  have hPD : zPD G A [] H := ⟨hP.sub [] rfl, hD.sub [] (by decide +kernel) rfl⟩
  have hP9 := hPD.1
  have hD9 := hPD.2
  have hR := Option.some.inj hF
  exact W.iret (v := ((p0 / (10 : Int32)) - (p0 / (10 : Int32)) / (10 : Int32) * (10 : Int32))) hx hb hr (fun t ht hW => ⟨⟨((p0 / (10 : Int32)) - (p0 / (10 : Int32)) / (10 : Int32) * (10 : Int32)), (), rfl, (by subst hR; rfl), by rw [ht]; exact hP9, va_K.moved hW.alike hK, hD9⟩, hS.F ht⟩) hS.2.2 dX11_digitOf_52

set_option maxHeartbeats 8000000 in
set_option maxRecDepth 100000 in
theorem mX11_areInColumns (l : Launch) (G : va_G) (tt : Nat → ClassId) (sz : Nat) (p0 : Int32) (p1 : Int32) (p2 : Int32) (p3 : Int32) (p4 : Int32) (RR : Bool) (hF : fX11_areInColumns p0 p1 p2 p3 p4 = some RR) : Met l yX11_areInColumns wsX11_areInColumns ({ frames := 0, cells := 0, slots := 0, locals := 0 } : Room) (zPre G (zTy tt) [.int p0, .int p1, .int p2, .int p3, .int p4] sz []) (va_Qi (fun (r : Int32) (_ : Unit) => r = bI RR) (zAt G (zTy tt) (va_A [] sz) (fun _ : Unit => [])) (va_A [] sz)) 0 0 (va_A [] sz) := by
  refine Met.ofW (cc := cX11_areInColumns) (maxL := 7) (ret := (some .boolean)) (by decide +kernel) rfl ?_
  intro p e s m args below meth c s₁ B hml hv
  obtain ⟨rfl, hsz, hP, hK, hD0, hN⟩ := hv
  have hx := B.exec
  have hb := B.bytes
  have hr := B.returns
  have hts := atoms_spec (ws := wsX11_areInColumns) B.pre
  have hown : s.vm.findClass RX11 = some m.cls := findClass_of_methodNamed B.named
  have hlocks := B.notSynchronized
  subst hsz
  have hD := hD0.self (sz := s.heap.size)
  generalize hAe : va_A [] s.heap.size = A at hD ⊢
  have hA : ∀ q : Nat, s.heap.size ≤ q → A q := fun q h => by rw [← hAe]; exact Or.inr h
  have hP : va_P G vwCl [] s.heap := hP
  have hl := lv_entry ([.int p0, .int p1, .int p2, .int p3, .int p4]) (n := 7) (Nat.le_of_ble_eq_true rfl)
  rw [lg_entry_eq]
  generalize (lg_sl ([.int p0, .int p1, .int p2, .int p3, .int p4]) ++ List.replicate (7 - (lg_sl ([.int p0, .int p1, .int p2, .int p3, .int p4])).length) Slot.unset).toArray = ls at hl ⊢
  have hl : lv_has ls 7 [(0, .int p0), (1, .int p1), (2, .int p2), (3, .int p3), (4, .int p4)] := hl
  have hb22 : ∀ (x5 : Int32) (t0 : Int32) (H : Heap) (locs : List Loc) (ls : Array Slot), fX11_areInColumns_22 p0 p1 p2 p3 p4 x5 t0 = some RR → va_P G vwCl [] H → va_D A [] → va_S A s.heap H locs → lv_has ls 7 [(1, .int p1), (2, .int p2), (3, .int p3), (4, .int p4), (5, .int x5)] → W p l e (headSpec wsX11_areInColumns ({ frames := 0, cells := 0, slots := 0, locals := 0 } : Room)).room s m ([.int p0, .int p1, .int p2, .int p3, .int p4] : List Value).toArray below meth c H locs 0 0 (MQ below (va_Qi (fun (r : Int32) (_ : Unit) => r = bI RR) (zAt G (zTy tt) A (fun _ : Unit => [])) A) ([.int p0, .int p1, .int p2, .int p3, .int p4] : List Value).toArray s 0 0 A) (F0 m 22 ls [.int t0]) := by
    intro x5 t0 H locs ls hF hP hD hS hl
    unfold fX11_areInColumns_22 at hF
    refine lv_istore (lv' := [(6, .int t0), (1, .int p1), (2, .int p2), (3, .int p3), (4, .int p4), (5, .int x5)]) hx hb dX11_areInColumns_22 hl (by decide) rfl (fun ls hl => ?_)
    refine lv_iload_n hx hb dX11_areInColumns_24 rfl (lv_at hl 2 rfl) ?_
    refine lv_if_lt (tgt := 59) hx hb dX11_areInColumns_25 (by decide) (fun c_25 => ?_) (fun c_25 => ?_)
    · have hF := z_t c_25 hF
      refine lv_iconst (v := (0 : Int32)) hx hb dX11_areInColumns_59 (by decide) ?_
      have hPD : zPD G A [] H := ⟨hP.sub [] rfl, hD.sub [] (by decide +kernel) rfl⟩
      have hP9 := hPD.1
      have hD9 := hPD.2
      have hR := Option.some.inj hF
      exact W.zret (v := (0 : Int32)) hx hb hr rfl (fun t ht hW => ⟨⟨(0 : Int32), (), rfl, (by subst hR; rfl), by rw [ht]; exact hP9, va_K.moved hW.alike hK, hD9⟩, hS.F ht⟩) hS.2.2 dX11_areInColumns_60
    · have hF := z_f c_25 hF
      refine lv_iload_n hx hb dX11_areInColumns_28 rfl (lv_at hl 2 rfl) ?_
      refine lv_iload_n hx hb dX11_areInColumns_29 rfl (lv_at hl 1 rfl) ?_
      refine lv_icmp_ge (tgt := 59) hx hb dX11_areInColumns_30 (by decide) (fun c_30 => ?_) (fun c_30 => ?_)
      · have hF := z_t c_30 hF
        refine lv_iconst (v := (0 : Int32)) hx hb dX11_areInColumns_59 (by decide) ?_
        have hPD : zPD G A [] H := ⟨hP.sub [] rfl, hD.sub [] (by decide +kernel) rfl⟩
        have hP9 := hPD.1
        have hD9 := hPD.2
        have hR := Option.some.inj hF
        exact W.zret (v := (0 : Int32)) hx hb hr rfl (fun t ht hW => ⟨⟨(0 : Int32), (), rfl, (by subst hR; rfl), by rw [ht]; exact hP9, va_K.moved hW.alike hK, hD9⟩, hS.F ht⟩) hS.2.2 dX11_areInColumns_60
      · have hF := z_f c_30 hF
        refine lv_iload_n hx hb dX11_areInColumns_33 rfl (lv_at hl 3 rfl) ?_
        refine lv_if_lt (tgt := 59) hx hb dX11_areInColumns_34 (by decide) (fun c_34 => ?_) (fun c_34 => ?_)
        · have hF := z_t c_34 hF
          refine lv_iconst (v := (0 : Int32)) hx hb dX11_areInColumns_59 (by decide) ?_
          have hPD : zPD G A [] H := ⟨hP.sub [] rfl, hD.sub [] (by decide +kernel) rfl⟩
          have hP9 := hPD.1
          have hD9 := hPD.2
          have hR := Option.some.inj hF
          exact W.zret (v := (0 : Int32)) hx hb hr rfl (fun t ht hW => ⟨⟨(0 : Int32), (), rfl, (by subst hR; rfl), by rw [ht]; exact hP9, va_K.moved hW.alike hK, hD9⟩, hS.F ht⟩) hS.2.2 dX11_areInColumns_60
        · have hF := z_f c_34 hF
          refine lv_iload_n hx hb dX11_areInColumns_37 rfl (lv_at hl 3 rfl) ?_
          refine lv_iload hx hb dX11_areInColumns_38 (lv_at hl 5 rfl) ?_
          refine lv_icmp_ge (tgt := 59) hx hb dX11_areInColumns_40 (by decide) (fun c_40 => ?_) (fun c_40 => ?_)
          · have hF := z_t c_40 hF
            refine lv_iconst (v := (0 : Int32)) hx hb dX11_areInColumns_59 (by decide) ?_
            have hPD : zPD G A [] H := ⟨hP.sub [] rfl, hD.sub [] (by decide +kernel) rfl⟩
            have hP9 := hPD.1
            have hD9 := hPD.2
            have hR := Option.some.inj hF
            exact W.zret (v := (0 : Int32)) hx hb hr rfl (fun t ht hW => ⟨⟨(0 : Int32), (), rfl, (by subst hR; rfl), by rw [ht]; exact hP9, va_K.moved hW.alike hK, hD9⟩, hS.F ht⟩) hS.2.2 dX11_areInColumns_60
          · have hF := z_f c_40 hF
            refine lv_iload hx hb dX11_areInColumns_43 (lv_at hl 4 rfl) ?_
            refine lv_if_lt (tgt := 59) hx hb dX11_areInColumns_45 (by decide) (fun c_45 => ?_) (fun c_45 => ?_)
            · have hF := z_t c_45 hF
              refine lv_iconst (v := (0 : Int32)) hx hb dX11_areInColumns_59 (by decide) ?_
              have hPD : zPD G A [] H := ⟨hP.sub [] rfl, hD.sub [] (by decide +kernel) rfl⟩
              have hP9 := hPD.1
              have hD9 := hPD.2
              have hR := Option.some.inj hF
              exact W.zret (v := (0 : Int32)) hx hb hr rfl (fun t ht hW => ⟨⟨(0 : Int32), (), rfl, (by subst hR; rfl), by rw [ht]; exact hP9, va_K.moved hW.alike hK, hD9⟩, hS.F ht⟩) hS.2.2 dX11_areInColumns_60
            · have hF := z_f c_45 hF
              refine lv_iload hx hb dX11_areInColumns_48 (lv_at hl 4 rfl) ?_
              refine lv_iload hx hb dX11_areInColumns_50 (lv_at hl 0 rfl) ?_
              refine lv_icmp_ge (tgt := 59) hx hb dX11_areInColumns_52 (by decide) (fun c_52 => ?_) (fun c_52 => ?_)
              · have hF := z_t c_52 hF
                refine lv_iconst (v := (0 : Int32)) hx hb dX11_areInColumns_59 (by decide) ?_
                have hPD : zPD G A [] H := ⟨hP.sub [] rfl, hD.sub [] (by decide +kernel) rfl⟩
                have hP9 := hPD.1
                have hD9 := hPD.2
                have hR := Option.some.inj hF
                exact W.zret (v := (0 : Int32)) hx hb hr rfl (fun t ht hW => ⟨⟨(0 : Int32), (), rfl, (by subst hR; rfl), by rw [ht]; exact hP9, va_K.moved hW.alike hK, hD9⟩, hS.F ht⟩) hS.2.2 dX11_areInColumns_60
              · have hF := z_f c_52 hF
                refine lv_iconst (v := (1 : Int32)) hx hb dX11_areInColumns_55 (by decide) ?_
                refine lv_goto (tgt := 60) hx hb dX11_areInColumns_56 (by decide) ?_
                have hPD : zPD G A [] H := ⟨hP.sub [] rfl, hD.sub [] (by decide +kernel) rfl⟩
                have hP9 := hPD.1
                have hD9 := hPD.2
                have hR := Option.some.inj hF
                exact W.zret (v := (1 : Int32)) hx hb hr rfl (fun t ht hW => ⟨⟨(1 : Int32), (), rfl, (by subst hR; rfl), by rw [ht]; exact hP9, va_K.moved hW.alike hK, hD9⟩, hS.F ht⟩) hS.2.2 dX11_areInColumns_60
  have hb10 : ∀ (t0 : Int32) (H : Heap) (locs : List Loc) (ls : Array Slot), fX11_areInColumns_10 p0 p1 p2 p3 p4 t0 = some RR → va_P G vwCl [] H → va_D A [] → va_S A s.heap H locs → lv_has ls 7 [(0, .int p0), (1, .int p1), (2, .int p2), (3, .int p3), (4, .int p4)] → W p l e (headSpec wsX11_areInColumns ({ frames := 0, cells := 0, slots := 0, locals := 0 } : Room)).room s m ([.int p0, .int p1, .int p2, .int p3, .int p4] : List Value).toArray below meth c H locs 0 0 (MQ below (va_Qi (fun (r : Int32) (_ : Unit) => r = bI RR) (zAt G (zTy tt) A (fun _ : Unit => [])) A) ([.int p0, .int p1, .int p2, .int p3, .int p4] : List Value).toArray s 0 0 A) (F0 m 10 ls [.int t0]) := by
    intro t0 H locs ls hF hP hD hS hl
    unfold fX11_areInColumns_10 at hF
    refine lv_istore (lv' := [(5, .int t0), (0, .int p0), (1, .int p1), (2, .int p2), (3, .int p3), (4, .int p4)]) hx hb dX11_areInColumns_10 hl (by decide) rfl (fun ls hl => ?_)
    refine lv_iload_n hx hb dX11_areInColumns_12 rfl (lv_at hl 1 rfl) ?_
    refine lv_iconst (v := (2 : Int32)) hx hb dX11_areInColumns_13 (by decide) ?_
    refine lv_icmp_le (tgt := 21) hx hb dX11_areInColumns_14 (by decide) (fun c_14 => ?_) (fun c_14 => ?_)
    · have hF := z_t c_14 hF
      refine lv_iconst (v := (1 : Int32)) hx hb dX11_areInColumns_21 (by decide) ?_
      exact hb22 _ _ _ _ _ hF hP hD hS (lv_sub hl [2, 3, 4, 5, 0] rfl)
    · have hF := z_f c_14 hF
      refine lv_iload_n hx hb dX11_areInColumns_17 rfl (lv_at hl 2 rfl) ?_
      refine lv_goto (tgt := 22) hx hb dX11_areInColumns_18 (by decide) ?_
      exact hb22 _ _ _ _ _ hF hP hD hS (lv_sub hl [2, 3, 4, 5, 0] rfl)
  obtain ⟨H, hHe⟩ : ∃ H : Heap, s.heap = H := ⟨_, rfl⟩
  have hS : va_S A s.heap H [] := by rw [← hHe]; exact va_S.rf
  rw [hHe] at hP ⊢
  unfold fX11_areInColumns at hF
  refine lv_iload_n hx hb dX11_areInColumns_0 rfl (lv_at hl 0 rfl) ?_
  refine lv_iconst (v := (1 : Int32)) hx hb dX11_areInColumns_1 (by decide) ?_
  refine lv_icmp_le (tgt := 9) hx hb dX11_areInColumns_2 (by decide) (fun c_2 => ?_) (fun c_2 => ?_)
  · have hF := z_t c_2 hF
    refine lv_iconst (v := (1 : Int32)) hx hb dX11_areInColumns_9 (by decide) ?_
    exact hb10 _ _ _ _ hF hP hD hS (lv_sub hl [0, 1, 2, 3, 4] rfl)
  · have hF := z_f c_2 hF
    refine lv_iload_n hx hb dX11_areInColumns_5 rfl (lv_at hl 1 rfl) ?_
    refine lv_goto (tgt := 10) hx hb dX11_areInColumns_6 (by decide) ?_
    exact hb10 _ _ _ _ hF hP hD hS (lv_sub hl [0, 1, 2, 3, 4] rfl)

set_option maxHeartbeats 8000000 in
set_option maxRecDepth 100000 in
theorem mX11_isValue (l : Launch) (G : va_G) (tt : Nat → ClassId) (sz : Nat) (p0 : Int32) (RR : Bool) (hF : fX11_isValue p0 = some RR) : Met l yX11_isValue wsX11_isValue ({ frames := 0, cells := 0, slots := 0, locals := 0 } : Room) (zPre G (zTy tt) [.int p0] sz []) (va_Qi (fun (r : Int32) (_ : Unit) => r = bI RR) (zAt G (zTy tt) (va_A [] sz) (fun _ : Unit => [])) (va_A [] sz)) 0 0 (va_A [] sz) := by
  refine Met.ofW (cc := cX11_isValue) (maxL := 1) (ret := (some .boolean)) (by decide +kernel) rfl ?_
  intro p e s m args below meth c s₁ B hml hv
  obtain ⟨rfl, hsz, hP, hK, hD0, hN⟩ := hv
  have hx := B.exec
  have hb := B.bytes
  have hr := B.returns
  have hts := atoms_spec (ws := wsX11_isValue) B.pre
  have hown : s.vm.findClass RX11 = some m.cls := findClass_of_methodNamed B.named
  have hlocks := B.notSynchronized
  subst hsz
  have hD := hD0.self (sz := s.heap.size)
  generalize hAe : va_A [] s.heap.size = A at hD ⊢
  have hA : ∀ q : Nat, s.heap.size ≤ q → A q := fun q h => by rw [← hAe]; exact Or.inr h
  have hP : va_P G vwCl [] s.heap := hP
  have hl := lv_entry ([.int p0]) (n := 1) (Nat.le_of_ble_eq_true rfl)
  rw [lg_entry_eq]
  generalize (lg_sl ([.int p0]) ++ List.replicate (1 - (lg_sl ([.int p0])).length) Slot.unset).toArray = ls at hl ⊢
  have hl : lv_has ls 1 [(0, .int p0)] := hl
  obtain ⟨H, hHe⟩ : ∃ H : Heap, s.heap = H := ⟨_, rfl⟩
  have hS : va_S A s.heap H [] := by rw [← hHe]; exact va_S.rf
  rw [hHe] at hP ⊢
  unfold fX11_isValue at hF
  refine lv_iload_n hx hb dX11_isValue_0 rfl (lv_at hl 0 rfl) ?_
  refine lv_if_lt (tgt := 14) hx hb dX11_isValue_1 (by decide) (fun c_1 => ?_) (fun c_1 => ?_)
  · have hF := z_t c_1 hF
    refine lv_iconst (v := (0 : Int32)) hx hb dX11_isValue_14 (by decide) ?_
    have hPD : zPD G A [] H := ⟨hP.sub [] rfl, hD.sub [] (by decide +kernel) rfl⟩
    have hP9 := hPD.1
    have hD9 := hPD.2
    have hR := Option.some.inj hF
    exact W.zret (v := (0 : Int32)) hx hb hr rfl (fun t ht hW => ⟨⟨(0 : Int32), (), rfl, (by subst hR; rfl), by rw [ht]; exact hP9, va_K.moved hW.alike hK, hD9⟩, hS.F ht⟩) hS.2.2 dX11_isValue_15
  · have hF := z_f c_1 hF
    refine lv_iload_n hx hb dX11_isValue_4 rfl (lv_at hl 0 rfl) ?_
    refine lv_bipush (v := (8 : Int32)) hx hb dX11_isValue_5 (by decide) ?_
    refine lv_icmp_ge (tgt := 14) hx hb dX11_isValue_7 (by decide) (fun c_7 => ?_) (fun c_7 => ?_)
    · have hF := z_t c_7 hF
      refine lv_iconst (v := (0 : Int32)) hx hb dX11_isValue_14 (by decide) ?_
      have hPD : zPD G A [] H := ⟨hP.sub [] rfl, hD.sub [] (by decide +kernel) rfl⟩
      have hP9 := hPD.1
      have hD9 := hPD.2
      have hR := Option.some.inj hF
      exact W.zret (v := (0 : Int32)) hx hb hr rfl (fun t ht hW => ⟨⟨(0 : Int32), (), rfl, (by subst hR; rfl), by rw [ht]; exact hP9, va_K.moved hW.alike hK, hD9⟩, hS.F ht⟩) hS.2.2 dX11_isValue_15
    · have hF := z_f c_7 hF
      refine lv_iconst (v := (1 : Int32)) hx hb dX11_isValue_10 (by decide) ?_
      refine lv_goto (tgt := 15) hx hb dX11_isValue_11 (by decide) ?_
      have hPD : zPD G A [] H := ⟨hP.sub [] rfl, hD.sub [] (by decide +kernel) rfl⟩
      have hP9 := hPD.1
      have hD9 := hPD.2
      have hR := Option.some.inj hF
      exact W.zret (v := (1 : Int32)) hx hb hr rfl (fun t ht hW => ⟨⟨(1 : Int32), (), rfl, (by subst hR; rfl), by rw [ht]; exact hP9, va_K.moved hW.alike hK, hD9⟩, hS.F ht⟩) hS.2.2 dX11_isValue_15

set_option maxHeartbeats 8000000 in
set_option maxRecDepth 100000 in
theorem mX11_isOrder (l : Launch) (G : va_G) (tt : Nat → ClassId) (sz : Nat) (K : Nat) (p0 : Int32) (RR : Bool) (hF : fX11_isOrder K p0 = some RR) : Met l yX11_isOrder wsX11_isOrder ({ frames := 1, cells := 0, slots := 0, locals := 21 } : Room) (zPre G (zTy tt) [.int p0] sz []) (va_Qi (fun (r : Int32) (_ : Unit) => r = bI RR) (zAt G (zTy tt) (va_A [] sz) (fun _ : Unit => [])) (va_A [] sz)) 0 0 (va_A [] sz) := by
  refine Met.ofW (cc := cX11_isOrder) (maxL := 3) (ret := (some .boolean)) (by decide +kernel) rfl ?_
  intro p e s m args below meth c s₁ B hml hv
  obtain ⟨rfl, hsz, hP, hK, hD0, hN⟩ := hv
  have hx := B.exec
  have hb := B.bytes
  have hr := B.returns
  have hts := atoms_spec (ws := wsX11_isOrder) B.pre
  have hown : s.vm.findClass RX11 = some m.cls := findClass_of_methodNamed B.named
  have hlocks := B.notSynchronized
  subst hsz
  have hD := hD0.self (sz := s.heap.size)
  generalize hAe : va_A [] s.heap.size = A at hD ⊢
  have hA : ∀ q : Nat, s.heap.size ≤ q → A q := fun q h => by rw [← hAe]; exact Or.inr h
  have hP : va_P G vwCl [] s.heap := hP
  have hl := lv_entry ([.int p0]) (n := 3) (Nat.le_of_ble_eq_true rfl)
  rw [lg_entry_eq]
  generalize (lg_sl ([.int p0]) ++ List.replicate (3 - (lg_sl ([.int p0])).length) Slot.unset).toArray = ls at hl ⊢
  have hl : lv_has ls 3 [(0, .int p0)] := hl
  have hb17 : ∀ (k17 : Nat) (x1 : Int32) (x2 : Int32) (H : Heap) (locs : List Loc) (ls : Array Slot), fX11_isOrder_17 K p0 k17 x1 x2 = some RR → va_P G vwCl [] H → va_D A [] → va_S A s.heap H locs → lv_has ls 3 [(0, .int p0), (1, .int x1), (2, .int x2)] → W p l e (headSpec wsX11_isOrder ({ frames := 1, cells := 0, slots := 0, locals := 21 } : Room)).room s m ([.int p0] : List Value).toArray below meth c H locs 0 0 (MQ below (va_Qi (fun (r : Int32) (_ : Unit) => r = bI RR) (zAt G (zTy tt) A (fun _ : Unit => [])) A) ([.int p0] : List Value).toArray s 0 0 A) (F0 m 17 ls []) := by
    intro k17
    induction k17 with
    | zero => intro x1 x2 H locs ls hF; rw [fX11_isOrder_17] at hF; cases hF
    | succ k17 ih17 =>
      intro x1 x2 H locs ls hF hP hD hS hl
      rw [fX11_isOrder_17] at hF
      refine lv_iload_n hx hb dX11_isOrder_17 rfl (lv_at hl 2 rfl) ?_
      refine lv_iconst (v := (4 : Int32)) hx hb dX11_isOrder_18 (by decide) ?_
      refine lv_icmp_ge (tgt := 38) hx hb dX11_isOrder_19 (by decide) (fun c_19 => ?_) (fun c_19 => ?_)
      · have hF := z_t c_19 hF
        refine lv_iload_n hx hb dX11_isOrder_38 rfl (lv_at hl 1 rfl) ?_
        refine lv_bipush (v := (15 : Int32)) hx hb dX11_isOrder_39 (by decide) ?_
        refine lv_icmp_ne (tgt := 48) hx hb dX11_isOrder_41 (by decide) (fun c_41 => ?_) (fun c_41 => ?_)
        · have hF := z_f c_41 hF
          refine lv_iconst (v := (0 : Int32)) hx hb dX11_isOrder_48 (by decide) ?_
          have hPD : zPD G A [] H := ⟨hP.sub [] rfl, hD.sub [] (by decide +kernel) rfl⟩
          have hP9 := hPD.1
          have hD9 := hPD.2
          have hR := Option.some.inj hF
          exact W.zret (v := (0 : Int32)) hx hb hr rfl (fun t ht hW => ⟨⟨(0 : Int32), (), rfl, (by subst hR; rfl), by rw [ht]; exact hP9, va_K.moved hW.alike hK, hD9⟩, hS.F ht⟩) hS.2.2 dX11_isOrder_49
        · have hF := z_t c_41 hF
          refine lv_iconst (v := (1 : Int32)) hx hb dX11_isOrder_44 (by decide) ?_
          refine lv_goto (tgt := 49) hx hb dX11_isOrder_45 (by decide) ?_
          have hPD : zPD G A [] H := ⟨hP.sub [] rfl, hD.sub [] (by decide +kernel) rfl⟩
          have hP9 := hPD.1
          have hD9 := hPD.2
          have hR := Option.some.inj hF
          exact W.zret (v := (1 : Int32)) hx hb hr rfl (fun t ht hW => ⟨⟨(1 : Int32), (), rfl, (by subst hR; rfl), by rw [ht]; exact hP9, va_K.moved hW.alike hK, hD9⟩, hS.F ht⟩) hS.2.2 dX11_isOrder_49
      · have hF := z_f c_19 hF
        refine lv_iload_n hx hb dX11_isOrder_22 rfl (lv_at hl 1 rfl) ?_
        refine lv_iconst (v := (1 : Int32)) hx hb dX11_isOrder_23 (by decide) ?_
        refine lv_iload_n hx hb dX11_isOrder_24 rfl (lv_at hl 0 rfl) ?_
        refine lv_iload_n hx hb dX11_isOrder_25 rfl (lv_at hl 2 rfl) ?_
        obtain ⟨q26, hc_26, hF⟩ := z_bind hF
        refine z_backi (wr := []) (z_goS (wc := []) (As := [.int p0, .int x2]) (rest := [.int (1 : Int32), .int x1]) ⟨hx, hb, hml, hown, hts⟩ hK hN hP hD (mX11_digitOf l G tt H.size p0 x2 q26 hc_26) (va_cwS 2 hts gX11_isOrder_X11_digitOf rfl rfl rfl (by decide +kernel) ⟨Nat.le_of_ble_eq_true rfl, Nat.le_of_ble_eq_true rfl⟩) [] rfl (by decide +kernel) rfl hl.1 rfl (Nat.le_of_ble_eq_true rfl) dX11_isOrder_26 ⟨Nat.zero_le _, Nat.zero_le _⟩) hP hD hS hA [] [] rfl rfl (by decide +kernel) (by decide +kernel) (fun r u H locs hw hP hD hS => ?_)
        replace hw := hw.symm; subst hw
        refine lv_ishl hx hb dX11_isOrder_29 ?_
        refine lv_ior hx hb dX11_isOrder_30 ?_
        refine lv_istore_n (lv' := [(1, .int (x1 ||| ((1 : Int32) <<< (q26 &&& 31)))), (0, .int p0), (2, .int x2)]) hx hb dX11_isOrder_31 rfl hl (by decide) rfl (fun ls hl => ?_)
        refine lv_iinc (v := (x2 + (1 : Int32))) (lv' := [(2, .int (x2 + (1 : Int32))), (1, .int (x1 ||| ((1 : Int32) <<< (q26 &&& 31)))), (0, .int p0)]) hx hb dX11_isOrder_32 hl (k := 2) rfl rfl (by decide) rfl (fun ls hl => ?_)
        refine lv_goto (tgt := 17) hx hb dX11_isOrder_35 (by decide) ?_
        exact ih17 _ _ _ _ _ hF hP hD hS (lv_sub hl [2, 1, 0] rfl)
  obtain ⟨H, hHe⟩ : ∃ H : Heap, s.heap = H := ⟨_, rfl⟩
  have hS : va_S A s.heap H [] := by rw [← hHe]; exact va_S.rf
  rw [hHe] at hP ⊢
  unfold fX11_isOrder at hF
  refine lv_iload_n hx hb dX11_isOrder_0 rfl (lv_at hl 0 rfl) ?_
  refine lv_if_lt (tgt := 11) hx hb dX11_isOrder_1 (by decide) (fun c_1 => ?_) (fun c_1 => ?_)
  · have hF := z_t c_1 hF
    refine lv_iconst (v := (0 : Int32)) hx hb dX11_isOrder_11 (by decide) ?_
    have hPD : zPD G A [] H := ⟨hP.sub [] rfl, hD.sub [] (by decide +kernel) rfl⟩
    have hP9 := hPD.1
    have hD9 := hPD.2
    have hR := Option.some.inj hF
    exact W.zret (v := (0 : Int32)) hx hb hr rfl (fun t ht hW => ⟨⟨(0 : Int32), (), rfl, (by subst hR; rfl), by rw [ht]; exact hP9, va_K.moved hW.alike hK, hD9⟩, hS.F ht⟩) hS.2.2 dX11_isOrder_12
  · have hF := z_f c_1 hF
    refine lv_iload_n hx hb dX11_isOrder_4 rfl (lv_at hl 0 rfl) ?_
    refine lv_sipush (v := (9999 : Int32)) hx hb dX11_isOrder_5 (by decide) ?_
    refine lv_icmp_le (tgt := 13) hx hb dX11_isOrder_8 (by decide) (fun c_8 => ?_) (fun c_8 => ?_)
    · have hF := z_t c_8 hF
      refine lv_iconst (v := (0 : Int32)) hx hb dX11_isOrder_13 (by decide) ?_
      refine lv_istore_n (lv' := [(1, .int (0 : Int32)), (0, .int p0)]) hx hb dX11_isOrder_14 rfl hl (by decide) rfl (fun ls hl => ?_)
      refine lv_iconst (v := (0 : Int32)) hx hb dX11_isOrder_15 (by decide) ?_
      refine lv_istore_n (lv' := [(2, .int (0 : Int32)), (1, .int (0 : Int32)), (0, .int p0)]) hx hb dX11_isOrder_16 rfl hl (by decide) rfl (fun ls hl => ?_)
      exact hb17 K _ _ _ _ _ hF hP hD hS (lv_sub hl [2, 1, 0] rfl)
    · have hF := z_f c_8 hF
      refine lv_iconst (v := (0 : Int32)) hx hb dX11_isOrder_11 (by decide) ?_
      have hPD : zPD G A [] H := ⟨hP.sub [] rfl, hD.sub [] (by decide +kernel) rfl⟩
      have hP9 := hPD.1
      have hD9 := hPD.2
      have hR := Option.some.inj hF
      exact W.zret (v := (0 : Int32)) hx hb hr rfl (fun t ht hW => ⟨⟨(0 : Int32), (), rfl, (by subst hR; rfl), by rw [ht]; exact hP9, va_K.moved hW.alike hK, hD9⟩, hS.F ht⟩) hS.2.2 dX11_isOrder_12

set_option maxHeartbeats 8000000 in
set_option maxRecDepth 100000 in
theorem mX11_withRow (l : Launch) (G : va_G) (tt : Nat → ClassId) (sz : Nat) (K : Nat) (p0 : Int32) (p1 : Int32) (p2 : Int32) (RR : Int32) (hF : fX11_withRow K p0 p1 p2 = some RR) : Met l yX11_withRow wsX11_withRow ({ frames := 1, cells := 0, slots := 0, locals := 21 } : Room) (zPre G (zTy tt) [.int p0, .int p1, .int p2] sz []) (va_Qi (fun (r : Int32) (_ : Unit) => r = RR) (zAt G (zTy tt) (va_A [] sz) (fun _ : Unit => [])) (va_A [] sz)) 0 0 (va_A [] sz) := by
  refine Met.ofW (cc := cX11_withRow) (maxL := 5) (ret := (some .int)) (by decide +kernel) rfl ?_
  intro p e s m args below meth c s₁ B hml hv
  obtain ⟨rfl, hsz, hP, hK, hD0, hN⟩ := hv
  have hx := B.exec
  have hb := B.bytes
  have hr := B.returns
  have hts := atoms_spec (ws := wsX11_withRow) B.pre
  have hown : s.vm.findClass RX11 = some m.cls := findClass_of_methodNamed B.named
  have hlocks := B.notSynchronized
  subst hsz
  have hD := hD0.self (sz := s.heap.size)
  generalize hAe : va_A [] s.heap.size = A at hD ⊢
  have hA : ∀ q : Nat, s.heap.size ≤ q → A q := fun q h => by rw [← hAe]; exact Or.inr h
  have hP : va_P G vwCl [] s.heap := hP
  have hl := lv_entry ([.int p0, .int p1, .int p2]) (n := 5) (Nat.le_of_ble_eq_true rfl)
  rw [lg_entry_eq]
  generalize (lg_sl ([.int p0, .int p1, .int p2]) ++ List.replicate (5 - (lg_sl ([.int p0, .int p1, .int p2])).length) Slot.unset).toArray = ls at hl ⊢
  have hl : lv_has ls 5 [(0, .int p0), (1, .int p1), (2, .int p2)] := hl
  have hb5 : ∀ (k5 : Nat) (x3 : Int32) (x4 : Int32) (H : Heap) (locs : List Loc) (ls : Array Slot), fX11_withRow_5 K p0 p1 p2 k5 x3 x4 = some RR → va_P G vwCl [] H → va_D A [] → va_S A s.heap H locs → lv_has ls 5 [(1, .int p1), (2, .int p2), (3, .int x3), (4, .int x4)] → W p l e (headSpec wsX11_withRow ({ frames := 1, cells := 0, slots := 0, locals := 21 } : Room)).room s m ([.int p0, .int p1, .int p2] : List Value).toArray below meth c H locs 0 0 (MQ below (va_Qi (fun (r : Int32) (_ : Unit) => r = RR) (zAt G (zTy tt) A (fun _ : Unit => [])) A) ([.int p0, .int p1, .int p2] : List Value).toArray s 0 0 A) (F0 m 5 ls []) := by
    intro k5
    induction k5 with
    | zero => intro x3 x4 H locs ls hF; rw [fX11_withRow_5] at hF; cases hF
    | succ k5 ih5 =>
      intro x3 x4 H locs ls hF hP hD hS hl
      rw [fX11_withRow_5] at hF
      refine lv_iload hx hb dX11_withRow_5 (lv_at hl 3 rfl) ?_
      refine lv_iload_n hx hb dX11_withRow_7 rfl (lv_at hl 1 rfl) ?_
      refine lv_icmp_ge (tgt := 29) hx hb dX11_withRow_8 (by decide) (fun c_8 => ?_) (fun c_8 => ?_)
      · have hF := z_t c_8 hF
        refine lv_iload_n hx hb dX11_withRow_29 rfl (lv_at hl 2 rfl) ?_
        have hPD : zPD G A [] H := ⟨hP.sub [] rfl, hD.sub [] (by decide +kernel) rfl⟩
        have hP9 := hPD.1
        have hD9 := hPD.2
        have hR := Option.some.inj hF
        exact W.iret (v := x3) hx hb hr (fun t ht hW => ⟨⟨x3, (), rfl, (by subst hR; rfl), by rw [ht]; exact hP9, va_K.moved hW.alike hK, hD9⟩, hS.F ht⟩) hS.2.2 dX11_withRow_30
      · have hF := z_f c_8 hF
        refine lv_bipush (v := (31 : Int32)) hx hb dX11_withRow_11 (by decide) ?_
        refine lv_iload_n hx hb dX11_withRow_13 rfl (lv_at hl 2 rfl) ?_
        refine lv_imul hx hb dX11_withRow_14 ?_
        refine lv_iload_n hx hb dX11_withRow_15 rfl (lv_at hl 0 rfl) ?_
        refine lv_iload hx hb dX11_withRow_16 (lv_at hl 3 rfl) ?_
        obtain ⟨q18, hc_18, hF⟩ := z_bind hF
        refine z_backi (wr := []) (z_goS (wc := []) (As := [.int p1, .int x4]) (rest := [.int ((31 : Int32) * x3)]) ⟨hx, hb, hml, hown, hts⟩ hK hN hP hD (mX11_valueIn l G tt H.size p1 x4 q18 hc_18) (va_cwS 2 hts gX11_withRow_X11_valueIn rfl rfl rfl (by decide +kernel) ⟨Nat.le_of_ble_eq_true rfl, Nat.le_of_ble_eq_true rfl⟩) [] rfl (by decide +kernel) rfl hl.1 rfl (Nat.le_of_ble_eq_true rfl) dX11_withRow_18 ⟨Nat.zero_le _, Nat.zero_le _⟩) hP hD hS hA [] [] rfl rfl (by decide +kernel) (by decide +kernel) (fun r u H locs hw hP hD hS => ?_)
        replace hw := hw.symm; subst hw
        refine lv_iadd hx hb dX11_withRow_21 ?_
        refine lv_istore_n (lv' := [(3, .int (((31 : Int32) * x3) + q18)), (1, .int p1), (2, .int p2), (4, .int x4)]) hx hb dX11_withRow_22 rfl hl (by decide) rfl (fun ls hl => ?_)
        refine lv_iinc (v := (x4 + (1 : Int32))) (lv' := [(4, .int (x4 + (1 : Int32))), (3, .int (((31 : Int32) * x3) + q18)), (1, .int p1), (2, .int p2)]) hx hb dX11_withRow_23 hl (k := 3) rfl rfl (by decide) rfl (fun ls hl => ?_)
        refine lv_goto (tgt := 5) hx hb dX11_withRow_26 (by decide) ?_
        exact ih5 _ _ _ _ _ hF hP hD hS (lv_sub hl [2, 3, 1, 0] rfl)
  obtain ⟨H, hHe⟩ : ∃ H : Heap, s.heap = H := ⟨_, rfl⟩
  have hS : va_S A s.heap H [] := by rw [← hHe]; exact va_S.rf
  rw [hHe] at hP ⊢
  unfold fX11_withRow at hF
  refine lv_iload_n hx hb dX11_withRow_0 rfl (lv_at hl 0 rfl) ?_
  refine lv_istore_n (lv' := [(3, .int p0), (0, .int p0), (1, .int p1), (2, .int p2)]) hx hb dX11_withRow_1 rfl hl (by decide) rfl (fun ls hl => ?_)
  refine lv_iconst (v := (0 : Int32)) hx hb dX11_withRow_2 (by decide) ?_
  refine lv_istore (lv' := [(4, .int (0 : Int32)), (3, .int p0), (0, .int p0), (1, .int p1), (2, .int p2)]) hx hb dX11_withRow_3 hl (by decide) rfl (fun ls hl => ?_)
  exact hb5 K _ _ _ _ _ hF hP hD hS (lv_sub hl [3, 4, 1, 0] rfl)

set_option maxHeartbeats 8000000 in
set_option maxRecDepth 100000 in
theorem mX1_code (l : Launch) (G : va_G) (tt : Nat → ClassId) (sz : Nat) (p0 : Int32) (p1 : Int32) (p2 : Int32) (p3 : Int32) (p4 : Int32) (RR : Int32) (hF : fX1_code p0 p1 p2 p3 p4 = some RR) : Met l yX1_code wsX1_code ({ frames := 0, cells := 0, slots := 0, locals := 0 } : Room) (zPre G (zTy tt) [.int p0, .int p1, .int p2, .int p3, .int p4] sz []) (va_Qi (fun (r : Int32) (_ : Unit) => r = RR) (zAt G (zTy tt) (va_A [] sz) (fun _ : Unit => [])) (va_A [] sz)) 0 0 (va_A [] sz) := by
  refine Met.ofW (cc := cX1_code) (maxL := 6) (ret := (some .int)) (by decide +kernel) rfl ?_
  intro p e s m args below meth c s₁ B hml hv
  obtain ⟨rfl, hsz, hP, hK, hD0, hN⟩ := hv
  have hx := B.exec
  have hb := B.bytes
  have hr := B.returns
  have hts := atoms_spec (ws := wsX1_code) B.pre
  have hown : s.vm.findClass RX1 = some m.cls := findClass_of_methodNamed B.named
  have hlocks := B.notSynchronized
  subst hsz
  have hD := hD0.self (sz := s.heap.size)
  generalize hAe : va_A [] s.heap.size = A at hD ⊢
  have hA : ∀ q : Nat, s.heap.size ≤ q → A q := fun q h => by rw [← hAe]; exact Or.inr h
  have hP : va_P G vwCl [] s.heap := hP
  have hl := lv_entry ([.int p0, .int p1, .int p2, .int p3, .int p4]) (n := 6) (Nat.le_of_ble_eq_true rfl)
  rw [lg_entry_eq]
  generalize (lg_sl ([.int p0, .int p1, .int p2, .int p3, .int p4]) ++ List.replicate (6 - (lg_sl ([.int p0, .int p1, .int p2, .int p3, .int p4])).length) Slot.unset).toArray = ls at hl ⊢
  have hl : lv_has ls 6 [(0, .int p0), (1, .int p1), (2, .int p2), (3, .int p3), (4, .int p4)] := hl
  have hb37 : ∀ (t0 : Int32) (t1 : Int32) (H : Heap) (locs : List Loc) (ls : Array Slot), fX1_code_37 p0 p1 p2 p3 p4 t0 t1 = some RR → va_P G vwCl [] H → va_D A [] → va_S A s.heap H locs → lv_has ls 6 [(0, .int p0), (1, .int p1), (2, .int p2), (3, .int p3), (4, .int p4)] → W p l e (headSpec wsX1_code ({ frames := 0, cells := 0, slots := 0, locals := 0 } : Room)).room s m ([.int p0, .int p1, .int p2, .int p3, .int p4] : List Value).toArray below meth c H locs 0 0 (MQ below (va_Qi (fun (r : Int32) (_ : Unit) => r = RR) (zAt G (zTy tt) A (fun _ : Unit => [])) A) ([.int p0, .int p1, .int p2, .int p3, .int p4] : List Value).toArray s 0 0 A) (F0 m 37 ls [.int t1, .int t0]) := by
    intro t0 t1 H locs ls hF hP hD hS hl
    unfold fX1_code_37 at hF
    refine lv_ior hx hb dX1_code_37 ?_
    refine lv_istore (lv' := [(5, .int (t0 ||| t1)), (0, .int p0), (1, .int p1), (2, .int p2), (3, .int p3), (4, .int p4)]) hx hb dX1_code_38 hl (by decide) rfl (fun ls hl => ?_)
    refine lv_iload_n hx hb dX1_code_40 rfl (lv_at hl 1 rfl) ?_
    refine lv_iload_n hx hb dX1_code_41 rfl (lv_at hl 2 rfl) ?_
    refine lv_iconst (v := (3 : Int32)) hx hb dX1_code_42 (by decide) ?_
    refine lv_ishl hx hb dX1_code_43 ?_
    refine lv_ior hx hb dX1_code_44 ?_
    refine lv_iload_n hx hb dX1_code_45 rfl (lv_at hl 3 rfl) ?_
    refine lv_iconst (v := (5 : Int32)) hx hb dX1_code_46 (by decide) ?_
    refine lv_ishl hx hb dX1_code_47 ?_
    refine lv_ior hx hb dX1_code_48 ?_
    refine lv_iload_n hx hb dX1_code_49 rfl (lv_at hl 4 rfl) ?_
    refine lv_bipush (v := (7 : Int32)) hx hb dX1_code_50 (by decide) ?_
    refine lv_ishl hx hb dX1_code_52 ?_
    refine lv_ior hx hb dX1_code_53 ?_
    refine lv_iload hx hb dX1_code_54 (lv_at hl 5 rfl) ?_
    refine lv_bipush (v := (9 : Int32)) hx hb dX1_code_56 (by decide) ?_
    refine lv_ishl hx hb dX1_code_58 ?_
    refine lv_ior hx hb dX1_code_59 ?_
    refine lv_iload hx hb dX1_code_60 (lv_at hl 0 rfl) ?_
    refine lv_bipush (v := (11 : Int32)) hx hb dX1_code_62 (by decide) ?_
    refine lv_ishl hx hb dX1_code_64 ?_
    refine lv_ior hx hb dX1_code_65 ?_
    have hPD : zPD G A [] H := ⟨hP.sub [] rfl, hD.sub [] (by decide +kernel) rfl⟩
    have hP9 := hPD.1
    have hD9 := hPD.2
    have hR := Option.some.inj hF
    exact W.iret (v := (((((p0 ||| (p1 <<< ((3 : Int32) &&& 31))) ||| (p2 <<< ((5 : Int32) &&& 31))) ||| (p3 <<< ((7 : Int32) &&& 31))) ||| (p4 <<< ((9 : Int32) &&& 31))) ||| ((t0 ||| t1) <<< ((11 : Int32) &&& 31)))) hx hb hr (fun t ht hW => ⟨⟨(((((p0 ||| (p1 <<< ((3 : Int32) &&& 31))) ||| (p2 <<< ((5 : Int32) &&& 31))) ||| (p3 <<< ((7 : Int32) &&& 31))) ||| (p4 <<< ((9 : Int32) &&& 31))) ||| ((t0 ||| t1) <<< ((11 : Int32) &&& 31))), (), rfl, (by subst hR; rfl), by rw [ht]; exact hP9, va_K.moved hW.alike hK, hD9⟩, hS.F ht⟩) hS.2.2 dX1_code_66
  have hb19 : ∀ (t0 : Int32) (t1 : Int32) (H : Heap) (locs : List Loc) (ls : Array Slot), fX1_code_19 p0 p1 p2 p3 p4 t0 t1 = some RR → va_P G vwCl [] H → va_D A [] → va_S A s.heap H locs → lv_has ls 6 [(0, .int p0), (1, .int p1), (2, .int p2), (3, .int p3), (4, .int p4)] → W p l e (headSpec wsX1_code ({ frames := 0, cells := 0, slots := 0, locals := 0 } : Room)).room s m ([.int p0, .int p1, .int p2, .int p3, .int p4] : List Value).toArray below meth c H locs 0 0 (MQ below (va_Qi (fun (r : Int32) (_ : Unit) => r = RR) (zAt G (zTy tt) A (fun _ : Unit => [])) A) ([.int p0, .int p1, .int p2, .int p3, .int p4] : List Value).toArray s 0 0 A) (F0 m 19 ls [.int t1, .int t0]) := by
    intro t0 t1 H locs ls hF hP hD hS hl
    unfold fX1_code_19 at hF
    refine lv_ior hx hb dX1_code_19 ?_
    refine lv_istore (lv' := [(5, .int (t0 ||| t1)), (0, .int p0), (1, .int p1), (2, .int p2), (3, .int p3), (4, .int p4)]) hx hb dX1_code_20 hl (by decide) rfl (fun ls hl => ?_)
    refine lv_iload hx hb dX1_code_22 (lv_at hl 0 rfl) ?_
    refine lv_iload_n hx hb dX1_code_24 rfl (lv_at hl 2 rfl) ?_
    refine lv_iconst (v := (2 : Int32)) hx hb dX1_code_25 (by decide) ?_
    refine lv_icmp_le (tgt := 36) hx hb dX1_code_26 (by decide) (fun c_26 => ?_) (fun c_26 => ?_)
    · have hF := z_t c_26 hF
      refine lv_iconst (v := (0 : Int32)) hx hb dX1_code_36 (by decide) ?_
      exact hb37 _ _ _ _ _ hF hP hD hS (lv_sub hl [1, 2, 3, 4, 5] rfl)
    · have hF := z_f c_26 hF
      refine lv_iconst (v := (1 : Int32)) hx hb dX1_code_29 (by decide) ?_
      refine lv_iload hx hb dX1_code_30 (lv_at hl 5 rfl) ?_
      refine lv_ishl hx hb dX1_code_32 ?_
      refine lv_goto (tgt := 37) hx hb dX1_code_33 (by decide) ?_
      exact hb37 _ _ _ _ _ hF hP hD hS (lv_sub hl [1, 2, 3, 4, 5] rfl)
  obtain ⟨H, hHe⟩ : ∃ H : Heap, s.heap = H := ⟨_, rfl⟩
  have hS : va_S A s.heap H [] := by rw [← hHe]; exact va_S.rf
  rw [hHe] at hP ⊢
  unfold fX1_code at hF
  refine lv_iconst (v := (1 : Int32)) hx hb dX1_code_0 (by decide) ?_
  refine lv_iload_n hx hb dX1_code_1 rfl (lv_at hl 2 rfl) ?_
  refine lv_ishl hx hb dX1_code_2 ?_
  refine lv_istore (lv' := [(5, .int ((1 : Int32) <<< (p2 &&& 31))), (0, .int p0), (1, .int p1), (2, .int p2), (3, .int p3), (4, .int p4)]) hx hb dX1_code_3 hl (by decide) rfl (fun ls hl => ?_)
  refine lv_iload hx hb dX1_code_5 (lv_at hl 0 rfl) ?_
  refine lv_iload_n hx hb dX1_code_7 rfl (lv_at hl 2 rfl) ?_
  refine lv_iconst (v := (1 : Int32)) hx hb dX1_code_8 (by decide) ?_
  refine lv_icmp_le (tgt := 18) hx hb dX1_code_9 (by decide) (fun c_9 => ?_) (fun c_9 => ?_)
  · have hF := z_t c_9 hF
    refine lv_iconst (v := (0 : Int32)) hx hb dX1_code_18 (by decide) ?_
    exact hb19 _ _ _ _ _ hF hP hD hS (lv_sub hl [1, 2, 3, 4, 5] rfl)
  · have hF := z_f c_9 hF
    refine lv_iconst (v := (1 : Int32)) hx hb dX1_code_12 (by decide) ?_
    refine lv_iload_n hx hb dX1_code_13 rfl (lv_at hl 4 rfl) ?_
    refine lv_ishl hx hb dX1_code_14 ?_
    refine lv_goto (tgt := 19) hx hb dX1_code_15 (by decide) ?_
    exact hb19 _ _ _ _ _ hF hP hD hS (lv_sub hl [1, 2, 3, 4, 5] rfl)

set_option maxHeartbeats 8000000 in
set_option maxRecDepth 100000 in
theorem mX1_spread (l : Launch) (G : va_G) (tt : Nat → ClassId) (sz : Nat) (K : Nat) (p0 : Int32) (p1 : Int32) (RR : Int32) (hF : fX1_spread K p0 p1 = some RR) : Met l yX1_spread wsX1_spread ({ frames := 1, cells := 0, slots := 0, locals := 22 } : Room) (zPre G (zTy tt) [.int p0, .int p1] sz []) (va_Qi (fun (r : Int32) (_ : Unit) => r = RR) (zAt G (zTy tt) (va_A [] sz) (fun _ : Unit => [])) (va_A [] sz)) 0 0 (va_A [] sz) := by
  refine Met.ofW (cc := cX1_spread) (maxL := 5) (ret := (some .int)) (by decide +kernel) rfl ?_
  intro p e s m args below meth c s₁ B hml hv
  obtain ⟨rfl, hsz, hP, hK, hD0, hN⟩ := hv
  have hx := B.exec
  have hb := B.bytes
  have hr := B.returns
  have hts := atoms_spec (ws := wsX1_spread) B.pre
  have hown : s.vm.findClass RX1 = some m.cls := findClass_of_methodNamed B.named
  have hlocks := B.notSynchronized
  subst hsz
  have hD := hD0.self (sz := s.heap.size)
  generalize hAe : va_A [] s.heap.size = A at hD ⊢
  have hA : ∀ q : Nat, s.heap.size ≤ q → A q := fun q h => by rw [← hAe]; exact Or.inr h
  have hP : va_P G vwCl [] s.heap := hP
  have hl := lv_entry ([.int p0, .int p1]) (n := 5) (Nat.le_of_ble_eq_true rfl)
  rw [lg_entry_eq]
  generalize (lg_sl ([.int p0, .int p1]) ++ List.replicate (5 - (lg_sl ([.int p0, .int p1])).length) Slot.unset).toArray = ls at hl ⊢
  have hl : lv_has ls 5 [(0, .int p0), (1, .int p1)] := hl
  have hb7 : ∀ (k7 : Nat) (x2 : Int32) (x3 : Int32) (x4 : Int32) (H : Heap) (locs : List Loc) (ls : Array Slot), fX1_spread_7 K p0 p1 k7 x2 x3 x4 = some RR → va_P G vwCl [] H → va_D A [] → va_S A s.heap H locs → lv_has ls 5 [(1, .int p1), (2, .int x2), (3, .int x3), (4, .int x4)] → W p l e (headSpec wsX1_spread ({ frames := 1, cells := 0, slots := 0, locals := 22 } : Room)).room s m ([.int p0, .int p1] : List Value).toArray below meth c H locs 0 0 (MQ below (va_Qi (fun (r : Int32) (_ : Unit) => r = RR) (zAt G (zTy tt) A (fun _ : Unit => [])) A) ([.int p0, .int p1] : List Value).toArray s 0 0 A) (F0 m 7 ls []) := by
    intro k7
    induction k7 with
    | zero => intro x2 x3 x4 H locs ls hF; rw [fX1_spread_7] at hF; cases hF
    | succ k7 ih7 =>
      have hb37 : ∀ (x2 : Int32) (x3 : Int32) (x4 : Int32) (H : Heap) (locs : List Loc) (ls : Array Slot), fX1_spread_37 K p0 p1 (fX1_spread_7 K p0 p1 k7) x2 x3 x4 = some RR → va_P G vwCl [] H → va_D A [] → va_S A s.heap H locs → lv_has ls 5 [(1, .int p1), (2, .int x2), (3, .int x3), (4, .int x4)] → W p l e (headSpec wsX1_spread ({ frames := 1, cells := 0, slots := 0, locals := 22 } : Room)).room s m ([.int p0, .int p1] : List Value).toArray below meth c H locs 0 0 (MQ below (va_Qi (fun (r : Int32) (_ : Unit) => r = RR) (zAt G (zTy tt) A (fun _ : Unit => [])) A) ([.int p0, .int p1] : List Value).toArray s 0 0 A) (F0 m 37 ls []) := by
        intro x2 x3 x4 H locs ls hF hP hD hS hl
        unfold fX1_spread_37 at hF
        refine lv_iinc (v := (x4 + (1 : Int32))) (lv' := [(4, .int (x4 + (1 : Int32))), (1, .int p1), (2, .int x2), (3, .int x3)]) hx hb dX1_spread_37 hl (k := 3) rfl rfl (by decide) rfl (fun ls hl => ?_)
        refine lv_goto (tgt := 7) hx hb dX1_spread_40 (by decide) ?_
        exact ih7 _ _ _ _ _ _ hF hP hD hS (lv_sub hl [1, 2, 3, 0] rfl)
      intro x2 x3 x4 H locs ls hF hP hD hS hl
      rw [fX1_spread_7] at hF
      refine lv_iload hx hb dX1_spread_7 (lv_at hl 3 rfl) ?_
      refine lv_iconst (v := (4 : Int32)) hx hb dX1_spread_9 (by decide) ?_
      refine lv_icmp_ge (tgt := 43) hx hb dX1_spread_10 (by decide) (fun c_10 => ?_) (fun c_10 => ?_)
      · have hF := z_t c_10 hF
        refine lv_iload_n hx hb dX1_spread_43 rfl (lv_at hl 2 rfl) ?_
        have hPD : zPD G A [] H := ⟨hP.sub [] rfl, hD.sub [] (by decide +kernel) rfl⟩
        have hP9 := hPD.1
        have hD9 := hPD.2
        have hR := Option.some.inj hF
        exact W.iret (v := x3) hx hb hr (fun t ht hW => ⟨⟨x3, (), rfl, (by subst hR; rfl), by rw [ht]; exact hP9, va_K.moved hW.alike hK, hD9⟩, hS.F ht⟩) hS.2.2 dX1_spread_44
      · have hF := z_f c_10 hF
        refine lv_iload_n hx hb dX1_spread_13 rfl (lv_at hl 0 rfl) ?_
        refine lv_iconst (v := (1 : Int32)) hx hb dX1_spread_14 (by decide) ?_
        refine lv_iload hx hb dX1_spread_15 (lv_at hl 3 rfl) ?_
        refine lv_ishl hx hb dX1_spread_17 ?_
        refine lv_iand hx hb dX1_spread_18 ?_
        refine lv_if_eq (tgt := 37) hx hb dX1_spread_19 (by decide) (fun c_19 => ?_) (fun c_19 => ?_)
        · have hF := z_t c_19 hF
          exact hb37 _ _ _ _ _ _ hF hP hD hS (lv_sub hl [0, 1, 2, 3] rfl)
        · have hF := z_f c_19 hF
          refine lv_iload_n hx hb dX1_spread_22 rfl (lv_at hl 2 rfl) ?_
          refine lv_iload hx hb dX1_spread_23 (lv_at hl 3 rfl) ?_
          refine lv_iload_n hx hb dX1_spread_25 rfl (lv_at hl 1 rfl) ?_
          refine lv_bipush (v := (7 : Int32)) hx hb dX1_spread_26 (by decide) ?_
          refine lv_iand hx hb dX1_spread_28 ?_
          obtain ⟨q29, hc_29, hF⟩ := z_bind hF
          refine z_backi (wr := []) (z_goS (wc := []) (As := [.int x3, .int x4, .int (x2 &&& (7 : Int32))]) (rest := []) ⟨hx, hb, hml, hown, hts⟩ hK hN hP hD (mX1_withValue l G tt H.size x3 x4 (x2 &&& (7 : Int32)) q29 hc_29) (va_cwS 3 hts gX1_spread_X1_withValue rfl rfl rfl (by decide +kernel) ⟨Nat.le_of_ble_eq_true rfl, Nat.le_of_ble_eq_true rfl⟩) [] rfl (by decide +kernel) rfl hl.1 rfl (Nat.le_of_ble_eq_true rfl) dX1_spread_29 ⟨Nat.zero_le _, Nat.zero_le _⟩) hP hD hS hA [] [] rfl rfl (by decide +kernel) (by decide +kernel) (fun r u H locs hw hP hD hS => ?_)
          replace hw := hw.symm; subst hw
          refine lv_istore_n (lv' := [(3, .int q29), (1, .int p1), (2, .int x2), (4, .int x4)]) hx hb dX1_spread_32 rfl hl (by decide) rfl (fun ls hl => ?_)
          refine lv_iload_n hx hb dX1_spread_33 rfl (lv_at hl 2 rfl) ?_
          refine lv_iconst (v := (3 : Int32)) hx hb dX1_spread_34 (by decide) ?_
          refine lv_ishr hx hb dX1_spread_35 ?_
          refine lv_istore_n (lv' := [(2, .int (x2 >>> ((3 : Int32) &&& 31))), (3, .int q29), (1, .int p1), (4, .int x4)]) hx hb dX1_spread_36 rfl hl (by decide) rfl (fun ls hl => ?_)
          exact hb37 _ _ _ _ _ _ hF hP hD hS (lv_sub hl [2, 0, 1, 3] rfl)
  obtain ⟨H, hHe⟩ : ∃ H : Heap, s.heap = H := ⟨_, rfl⟩
  have hS : va_S A s.heap H [] := by rw [← hHe]; exact va_S.rf
  rw [hHe] at hP ⊢
  unfold fX1_spread at hF
  refine lv_iload_n hx hb dX1_spread_0 rfl (lv_at hl 0 rfl) ?_
  refine lv_istore_n (lv' := [(2, .int p0), (0, .int p0), (1, .int p1)]) hx hb dX1_spread_1 rfl hl (by decide) rfl (fun ls hl => ?_)
  refine lv_iconst (v := (0 : Int32)) hx hb dX1_spread_2 (by decide) ?_
  refine lv_istore_n (lv' := [(3, .int (0 : Int32)), (2, .int p0), (0, .int p0), (1, .int p1)]) hx hb dX1_spread_3 rfl hl (by decide) rfl (fun ls hl => ?_)
  refine lv_iconst (v := (0 : Int32)) hx hb dX1_spread_4 (by decide) ?_
  refine lv_istore (lv' := [(4, .int (0 : Int32)), (3, .int (0 : Int32)), (2, .int p0), (0, .int p0), (1, .int p1)]) hx hb dX1_spread_5 hl (by decide) rfl (fun ls hl => ?_)
  exact hb7 K _ _ _ _ _ _ hF hP hD hS (lv_sub hl [4, 2, 1, 0] rfl)

set_option maxHeartbeats 8000000 in
set_option maxRecDepth 100000 in
theorem mX1_agrees (l : Launch) (G : va_G) (tt : Nat → ClassId) (sz : Nat) (K : Nat) (p0 : Int32) (p1 : Int32) (RR : Bool) (hF : fX1_agrees K p0 p1 = some RR) : Met l yX1_agrees wsX1_agrees ({ frames := 2, cells := 0, slots := 0, locals := 46 } : Room) (zPre G (zTy tt) [.int p0, .int p1] sz []) (va_Qi (fun (r : Int32) (_ : Unit) => r = bI RR) (zAt G (zTy tt) (va_A [] sz) (fun _ : Unit => [])) (va_A [] sz)) 0 0 (va_A [] sz) := by
  refine Met.ofW (cc := cX1_agrees) (maxL := 4) (ret := (some .boolean)) (by decide +kernel) rfl ?_
  intro p e s m args below meth c s₁ B hml hv
  obtain ⟨rfl, hsz, hP, hK, hD0, hN⟩ := hv
  have hx := B.exec
  have hb := B.bytes
  have hr := B.returns
  have hts := atoms_spec (ws := wsX1_agrees) B.pre
  have hown : s.vm.findClass RX1 = some m.cls := findClass_of_methodNamed B.named
  have hlocks := B.notSynchronized
  subst hsz
  have hD := hD0.self (sz := s.heap.size)
  generalize hAe : va_A [] s.heap.size = A at hD ⊢
  have hA : ∀ q : Nat, s.heap.size ≤ q → A q := fun q h => by rw [← hAe]; exact Or.inr h
  have hP : va_P G vwCl [] s.heap := hP
  have hl := lv_entry ([.int p0, .int p1]) (n := 4) (Nat.le_of_ble_eq_true rfl)
  rw [lg_entry_eq]
  generalize (lg_sl ([.int p0, .int p1]) ++ List.replicate (4 - (lg_sl ([.int p0, .int p1])).length) Slot.unset).toArray = ls at hl ⊢
  have hl : lv_has ls 4 [(0, .int p0), (1, .int p1)] := hl
  have hb4 : ∀ (k4 : Nat) (x2 : Int32) (x3 : Int32) (H : Heap) (locs : List Loc) (ls : Array Slot), fX1_agrees_4 K p0 p1 k4 x2 x3 = some RR → va_P G vwCl [] H → va_D A [] → va_S A s.heap H locs → lv_has ls 4 [(0, .int p0), (1, .int p1), (2, .int x2), (3, .int x3)] → W p l e (headSpec wsX1_agrees ({ frames := 2, cells := 0, slots := 0, locals := 46 } : Room)).room s m ([.int p0, .int p1] : List Value).toArray below meth c H locs 0 0 (MQ below (va_Qi (fun (r : Int32) (_ : Unit) => r = bI RR) (zAt G (zTy tt) A (fun _ : Unit => [])) A) ([.int p0, .int p1] : List Value).toArray s 0 0 A) (F0 m 4 ls []) := by
    intro k4
    induction k4 with
    | zero => intro x2 x3 H locs ls hF; rw [fX1_agrees_4] at hF; cases hF
    | succ k4 ih4 =>
      intro x2 x3 H locs ls hF hP hD hS hl
      rw [fX1_agrees_4] at hF
      refine lv_iload_n hx hb dX1_agrees_4 rfl (lv_at hl 3 rfl) ?_
      refine lv_iload_n hx hb dX1_agrees_5 rfl (lv_at hl 0 rfl) ?_
      obtain ⟨q6, hc_6, hF⟩ := z_bind hF
      refine z_backi (wr := []) (z_goS (wc := []) (As := [.int p0]) (rest := [.int x3]) ⟨hx, hb, hml, hown, hts⟩ hK hN hP hD (mX1_width l G tt H.size p0 q6 hc_6) (va_cwS 1 hts gX1_agrees_X1_width rfl rfl rfl (by decide +kernel) ⟨Nat.le_of_ble_eq_true rfl, Nat.le_of_ble_eq_true rfl⟩) [] rfl (by decide +kernel) rfl hl.1 rfl (Nat.le_of_ble_eq_true rfl) dX1_agrees_6 ⟨Nat.zero_le _, Nat.zero_le _⟩) hP hD hS hA [] [] rfl rfl (by decide +kernel) (by decide +kernel) (fun r u H locs hw hP hD hS => ?_)
      replace hw := hw.symm; subst hw
      refine lv_icmp_ge (tgt := 33) hx hb dX1_agrees_9 (by decide) (fun c_9 => ?_) (fun c_9 => ?_)
      · have hF := z_t c_9 hF
        refine lv_iload_n hx hb dX1_agrees_33 rfl (lv_at hl 0 rfl) ?_
        refine lv_iload_n hx hb dX1_agrees_34 rfl (lv_at hl 2 rfl) ?_
        obtain ⟨q35, hc_35, hF⟩ := z_bind hF
        refine z_backi (wr := []) (z_goS (wc := []) (As := [.int p0, .int x2]) (rest := []) ⟨hx, hb, hml, hown, hts⟩ hK hN hP hD (mX1_row l G tt H.size K p0 x2 q35 hc_35) (va_cwS 2 hts gX1_agrees_X1_row rfl rfl rfl (by decide +kernel) ⟨Nat.le_of_ble_eq_true rfl, Nat.le_of_ble_eq_true rfl⟩) [] rfl (by decide +kernel) rfl hl.1 rfl (Nat.le_of_ble_eq_true rfl) dX1_agrees_35 ⟨Nat.zero_le _, Nat.zero_le _⟩) hP hD hS hA [] [] rfl rfl (by decide +kernel) (by decide +kernel) (fun r u H locs hw hP hD hS => ?_)
        replace hw := hw.symm; subst hw
        refine lv_iload_n hx hb dX1_agrees_38 rfl (lv_at hl 1 rfl) ?_
        refine lv_icmp_ne (tgt := 46) hx hb dX1_agrees_39 (by decide) (fun c_39 => ?_) (fun c_39 => ?_)
        · have hF := z_f c_39 hF
          refine lv_iconst (v := (0 : Int32)) hx hb dX1_agrees_46 (by decide) ?_
          have hPD : zPD G A [] H := ⟨hP.sub [] rfl, hD.sub [] (by decide +kernel) rfl⟩
          have hP9 := hPD.1
          have hD9 := hPD.2
          have hR := Option.some.inj hF
          exact W.zret (v := (0 : Int32)) hx hb hr rfl (fun t ht hW => ⟨⟨(0 : Int32), (), rfl, (by subst hR; rfl), by rw [ht]; exact hP9, va_K.moved hW.alike hK, hD9⟩, hS.F ht⟩) hS.2.2 dX1_agrees_47
        · have hF := z_t c_39 hF
          refine lv_iconst (v := (1 : Int32)) hx hb dX1_agrees_42 (by decide) ?_
          refine lv_goto (tgt := 47) hx hb dX1_agrees_43 (by decide) ?_
          have hPD : zPD G A [] H := ⟨hP.sub [] rfl, hD.sub [] (by decide +kernel) rfl⟩
          have hP9 := hPD.1
          have hD9 := hPD.2
          have hR := Option.some.inj hF
          exact W.zret (v := (1 : Int32)) hx hb hr rfl (fun t ht hW => ⟨⟨(1 : Int32), (), rfl, (by subst hR; rfl), by rw [ht]; exact hP9, va_K.moved hW.alike hK, hD9⟩, hS.F ht⟩) hS.2.2 dX1_agrees_47
      · have hF := z_f c_9 hF
        refine lv_iload_n hx hb dX1_agrees_12 rfl (lv_at hl 2 rfl) ?_
        refine lv_iload_n hx hb dX1_agrees_13 rfl (lv_at hl 0 rfl) ?_
        refine lv_iload_n hx hb dX1_agrees_14 rfl (lv_at hl 3 rfl) ?_
        obtain ⟨q15, hc_15, hF⟩ := z_bind hF
        refine z_backi (wr := []) (z_goS (wc := []) (As := [.int p0, .int x3]) (rest := [.int x2]) ⟨hx, hb, hml, hown, hts⟩ hK hN hP hD (mX1_variable l G tt H.size p0 x3 q15 hc_15) (va_cwS 2 hts gX1_agrees_X1_variable rfl rfl rfl (by decide +kernel) ⟨Nat.le_of_ble_eq_true rfl, Nat.le_of_ble_eq_true rfl⟩) [] rfl (by decide +kernel) rfl hl.1 rfl (Nat.le_of_ble_eq_true rfl) dX1_agrees_15 ⟨Nat.zero_le _, Nat.zero_le _⟩) hP hD hS hA [] [] rfl rfl (by decide +kernel) (by decide +kernel) (fun r u H locs hw hP hD hS => ?_)
        replace hw := hw.symm; subst hw
        refine lv_iload_n hx hb dX1_agrees_18 rfl (lv_at hl 1 rfl) ?_
        refine lv_iload_n hx hb dX1_agrees_19 rfl (lv_at hl 3 rfl) ?_
        obtain ⟨q20, hc_20, hF⟩ := z_bind hF
        refine z_backi (wr := []) (z_goSN (wc := []) (As := [.int p1, .int x3]) (rest := [.int q15, .int x2]) (host := "LeapTables") ⟨hx, hb, hml, hown, hts⟩ hK hN hP hD (mX11_valueIn l G tt H.size p1 x3 q20 hc_20) ⟨va_cnB 2 hts gX1_agrees_X11_valueIn_n27 rfl rfl rfl (hN.2 _ (List.mem_of_getElem? (i := 6) rfl)) (hts (.initialized RX11) (List.mem_of_getElem? (i := 9) rfl)) (by decide +kernel) ⟨Nat.le_of_ble_eq_true rfl, Nat.le_of_ble_eq_true rfl⟩, hts (.static yX11_valueIn) (List.mem_of_getElem? (i := 8) rfl), trivial⟩ [] rfl (by decide +kernel) rfl hl.1 rfl (Nat.le_of_ble_eq_true rfl) dX1_agrees_20 ⟨Nat.zero_le _, Nat.zero_le _⟩) hP hD hS hA [] [] rfl rfl (by decide +kernel) (by decide +kernel) (fun r u H locs hw hP hD hS => ?_)
        replace hw := hw.symm; subst hw
        obtain ⟨q23, hc_23, hF⟩ := z_bind hF
        refine z_backi (wr := []) (z_goS (wc := []) (As := [.int x2, .int q15, .int q20]) (rest := []) ⟨hx, hb, hml, hown, hts⟩ hK hN hP hD (mX1_withValue l G tt H.size x2 q15 q20 q23 hc_23) (va_cwS 3 hts gX1_agrees_X1_withValue rfl rfl rfl (by decide +kernel) ⟨Nat.le_of_ble_eq_true rfl, Nat.le_of_ble_eq_true rfl⟩) [] rfl (by decide +kernel) rfl hl.1 rfl (Nat.le_of_ble_eq_true rfl) dX1_agrees_23 ⟨Nat.zero_le _, Nat.zero_le _⟩) hP hD hS hA [] [] rfl rfl (by decide +kernel) (by decide +kernel) (fun r u H locs hw hP hD hS => ?_)
        replace hw := hw.symm; subst hw
        refine lv_istore_n (lv' := [(2, .int q23), (0, .int p0), (1, .int p1), (3, .int x3)]) hx hb dX1_agrees_26 rfl hl (by decide) rfl (fun ls hl => ?_)
        refine lv_iinc (v := (x3 + (1 : Int32))) (lv' := [(3, .int (x3 + (1 : Int32))), (2, .int q23), (0, .int p0), (1, .int p1)]) hx hb dX1_agrees_27 hl (k := 3) rfl rfl (by decide) rfl (fun ls hl => ?_)
        refine lv_goto (tgt := 4) hx hb dX1_agrees_30 (by decide) ?_
        exact ih4 _ _ _ _ _ hF hP hD hS (lv_sub hl [2, 3, 1, 0] rfl)
  obtain ⟨H, hHe⟩ : ∃ H : Heap, s.heap = H := ⟨_, rfl⟩
  have hS : va_S A s.heap H [] := by rw [← hHe]; exact va_S.rf
  rw [hHe] at hP ⊢
  unfold fX1_agrees at hF
  refine lv_iconst (v := (0 : Int32)) hx hb dX1_agrees_0 (by decide) ?_
  refine lv_istore_n (lv' := [(2, .int (0 : Int32)), (0, .int p0), (1, .int p1)]) hx hb dX1_agrees_1 rfl hl (by decide) rfl (fun ls hl => ?_)
  refine lv_iconst (v := (0 : Int32)) hx hb dX1_agrees_2 (by decide) ?_
  refine lv_istore_n (lv' := [(3, .int (0 : Int32)), (2, .int (0 : Int32)), (0, .int p0), (1, .int p1)]) hx hb dX1_agrees_3 rfl hl (by decide) rfl (fun ls hl => ?_)
  exact hb4 K _ _ _ _ _ hF hP hD hS (lv_sub hl [2, 3, 1, 0] rfl)
