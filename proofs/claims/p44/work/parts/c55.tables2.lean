/-! the start: what holds there -/
theorem zt_prim {args : Array Value} {s : State} {ty : FieldType} (h : (Cond.arrayClass ty).before args s = true) : ∃ cA, ArrOfT s cA ty ∧ s.vm.findClass ("[" ++ ty.toString) = some cA := by
  obtain ⟨c, k, comp, h1, h2, h3⟩ := Cond.arrayClass_spec h
  exact ⟨c, fun n z => ⟨(fun k h => by cases h), k, h2, comp, h3⟩, h1⟩
theorem zt_obj {args : Array Value} {s : State} {C : String} (h : (Cond.arrayOver (.object C)).before args s = true) : ∃ cA, ArrOfT s cA (.object C) ∧ va_RA s cA (.object C) := by
  obtain ⟨comp, c, k, h1, h2, h3, h4, h5⟩ := Cond.arrayOver_spec h
  exact ⟨c, fun n z => ⟨(fun k h => by cases h), k, h3, comp, h4⟩, k, comp, h3, h4, h1, h5⟩
theorem zt_arr {args : Array Value} {s : State} {t : FieldType} (h : (Cond.arrayOver (.array t)).before args s = true) : ∃ cA, ArrOfT s cA (.array t) ∧ va_RA s cA (.array t) := by
  obtain ⟨comp, c, k, h1, h2, h3, h4, h5⟩ := arrayOverA_spec h
  exact ⟨c, fun n z => ⟨(fun k h => by cases h), k, h3, comp, h4⟩, h5⟩
theorem zS_K {args : Array Value} {s : State} (hts : ∀ w ∈ lw_tbl, w.before args s = true) : ∃ (G : va_G) (tt : Nat → ClassId), va_K G vwCl (zTy tt) s := by
  obtain ⟨cX0, iX0, kX0⟩ := u_known (C := RX0) (T := TX0) (N := 4) (n := 4) hts zL_c0 (hts (.instantiable RX0 4) (zt_2 _ (List.mem_of_getElem? (i := 0) (by decide +kernel))))
  obtain ⟨cX2, iX2, kX2⟩ := u_known (C := RX2) (T := TX2) (N := 2) (n := 2) hts zL_c2 (hts (.instantiable RX2 2) (zt_1 _ (List.mem_of_getElem? (i := 65) (by decide +kernel))))
  obtain ⟨cX3, iX3, kX3⟩ := u_known (C := RX3) (T := TX3) (N := 3) (n := 3) hts zL_c3 (hts (.instantiable RX3 3) (zt_2 _ (List.mem_of_getElem? (i := 24) (by decide +kernel))))
  obtain ⟨cX4, iX4, kX4⟩ := u_known (C := RX4) (T := TX4) (N := 9) (n := 9) hts zL_c4 (hts (.instantiable RX4 9) (zt_1 _ (List.mem_of_getElem? (i := 148) (by decide +kernel))))
  obtain ⟨cX5, iX5, kX5⟩ := u_known (C := RX5) (T := TX5) (N := 3) (n := 3) hts zL_c5 (hts (.instantiable RX5 3) (zt_1 _ (List.mem_of_getElem? (i := 128) (by decide +kernel))))
  obtain ⟨cX6, iX6, kX6⟩ := u_known (C := RX6) (T := TX6) (N := 1) (n := 1) hts zL_c6 (hts (.instantiable RX6 1) (zt_1 _ (List.mem_of_getElem? (i := 42) (by decide +kernel))))
  obtain ⟨cX7, iX7, kX7⟩ := u_known (C := RX7) (T := TX7) (N := 1) (n := 1) hts zL_c7 (hts (.instantiable RX7 1) (zt_1 _ (List.mem_of_getElem? (i := 53) (by decide +kernel))))
  obtain ⟨cX8, iX8, kX8⟩ := u_known (C := RX8) (T := TX8) (N := 12) (n := 12) hts zL_c8 (hts (.instantiable RX8 12) (zt_1 _ (List.mem_of_getElem? (i := 154) (by decide +kernel))))
  obtain ⟨cX9, iX9, kX9⟩ := u_known (C := RX9) (T := TX9) (N := 9) (n := 9) hts zL_c9 (hts (.instantiable RX9 9) (zt_1 _ (List.mem_of_getElem? (i := 36) (by decide +kernel))))
  obtain ⟨cX10, iX10, kX10⟩ := u_known (C := RX10) (T := TX10) (N := 1) (n := 1) hts zL_c10 (hts (.instantiable RX10 1) (zt_2 _ (List.mem_of_getElem? (i := 44) (by decide +kernel))))
  obtain ⟨cX11, iX11, kX11⟩ := u_known (C := RX11) (T := TX11) (N := 8) (n := 8) hts zL_c11 (hts (.instantiable RX11 8) (zt_1 _ (List.mem_of_getElem? (i := 28) (by decide +kernel))))
  obtain ⟨cX12, iX12, kX12⟩ := u_known (C := RX12) (T := TX12) (N := 1) (n := 1) hts zL_c12 (hts (.instantiable RX12 1) (zt_3 _ (List.mem_of_getElem? (i := 195) (by decide +kernel))))
  obtain ⟨cX13, iX13, kX13⟩ := u_known (C := RX13) (T := TX13) (N := 8) (n := 8) hts zL_c13 (hts (.instantiable RX13 8) (zt_3 _ (List.mem_of_getElem? (i := 207) (by decide +kernel))))
  obtain ⟨t0, h0, n0⟩ := zt_prim (hts (.arrayClass .int) (zt_1 _ (List.mem_of_getElem? (i := 51) (by decide +kernel))))
  obtain ⟨t1, h1, n1⟩ := zt_prim (hts (.arrayClass .long) (zt_1 _ (List.mem_of_getElem? (i := 62) (by decide +kernel))))
  obtain ⟨t2, h2, n2⟩ := zt_prim (hts (.arrayClass .boolean) (zt_4 _ (List.mem_of_getElem? (i := 9) (by decide +kernel))))
  obtain ⟨t3, h3, n3⟩ := zt_obj (hts (.arrayOver (.object "LeapTables$AtomList")) (zt_1 _ (List.mem_of_getElem? (i := 64) (by decide +kernel))))
  obtain ⟨t4, h4, n4⟩ := zt_obj (hts (.arrayOver (.object "LeapTables$State")) (zt_1 _ (List.mem_of_getElem? (i := 134) (by decide +kernel))))
  obtain ⟨t5, h5, n5⟩ := zt_arr (hts (.arrayOver (.array .int)) (zt_3 _ (List.mem_of_getElem? (i := 215) (by decide +kernel))))
  obtain ⟨t6, h6, n6⟩ := zt_arr (hts (.arrayOver (.array .boolean)) (zt_3 _ (List.mem_of_getElem? (i := 213) (by decide +kernel))))
  refine ⟨(fun k => [cX0, cX2, cX3, cX4, cX5, cX6, cX7, cX8, cX9, cX10, cX11, cX12, cX13].getD k cX0, fun k => [iX0, iX2, iX3, iX4, iX5, iX6, iX7, iX8, iX9, iX10, iX11, iX12, iX13].getD k iX0), fun k => [t0, t1, t2, t3, t4, t5, t6].getD k t0, ?_, ?_⟩
  · intro c q hq
    match c, hq with
    | 0, hq => cases hq; exact kX0
    | 1, hq => cases hq; exact kX2
    | 2, hq => cases hq; exact kX3
    | 3, hq => cases hq; exact kX4
    | 4, hq => cases hq; exact kX5
    | 5, hq => cases hq; exact kX6
    | 6, hq => cases hq; exact kX7
    | 7, hq => cases hq; exact kX8
    | 8, hq => cases hq; exact kX9
    | 9, hq => cases hq; exact kX10
    | 10, hq => cases hq; exact kX11
    | 11, hq => cases hq; exact kX12
    | 12, hq => cases hq; exact kX13
    | (c + 13), hq => simp [vwCl] at hq
  · intro k q hq
    match k, hq with
    | 0, hq => cases hq; exact ⟨h0, n0⟩
    | 1, hq => cases hq; exact ⟨h1, n1⟩
    | 2, hq => cases hq; exact ⟨h2, n2⟩
    | 3, hq => cases hq; exact ⟨h3, n3⟩
    | 4, hq => cases hq; exact ⟨h4, n4⟩
    | 5, hq => cases hq; exact ⟨h5, n5⟩
    | 6, hq => cases hq; exact ⟨h6, n6⟩
    | (k + 7), hq => simp [zTy] at hq
theorem zS_N {args : Array Value} {s : State} (hts : ∀ w ∈ lw_tbl, w.before args s = true) : zN s := ⟨fun q hq => va_Nw.of rfl (hts _ (zS_nf q hq)), fun q hq => va_Nw.of rfl (hts _ (zS_nm q hq))⟩
theorem zS_AO {args : Array Value} {s : State} (hts : ∀ w ∈ lw_tbl, w.before args s = true) : zAO s := ⟨va_AO.of (hts (.arrayOver (.object "LeapTables$AtomList")) (zt_1 _ (List.mem_of_getElem? (i := 64) (by decide +kernel)))), va_AO.of (hts (.arrayOver (.object "LeapTables$State")) (zt_1 _ (List.mem_of_getElem? (i := 134) (by decide +kernel))))⟩
theorem zS_X {args : Array Value} {s : State} (hts : ∀ w ∈ lw_tbl, w.before args s = true) (hgv : (Jvm.Cond.and given_1 narrow_1).before args s = true) : ∃ sa, zX sa (fun q : Nat => s.heap.size ≤ q) s := by
  obtain ⟨cur, kcur, hcur, -⟩ := Cond.instantiable_spec (hts (.instantiable RX11 8) (zt_1 _ (List.mem_of_getElem? (i := 28) (by decide +kernel))))
  have hstr : ∀ q ∈ vXS, vk_R RX11 q.1 q.2 (match (Term.string RX11 q.1).eval #[] s none [] s with | some (.ref a) => a | _ => 0) s := by
    intro q hq
    have h1 := hts _ (zS_xs q hq)
    have h2 : (Cond.stringRef RX11 q.1 q.2).before #[] s = true := h1
    obtain ⟨k, cf, i, a, -, -, -, -, -, h3⟩ := Cond.stringRef_spec hcur h2
    rw [h3]
    exact vk_R.of h2 h3
  refine ⟨fun k => match (Term.string RX11 k).eval #[] s none [] s with | some (.ref a) => a | _ => 0, fun U hU => ⟨fun q hq w hw a => ?_, fun q hq => vk_R.warm hU (hstr q hq), fun w hw a => ?_⟩, ?_, ?_⟩
  · obtain ⟨h1, h2⟩ := zS_xc q hq w hw
    exact zw_st hts h1 h2 U hU a
  · exact zw_st hts (zS_ns0 w hw) (zS_ns1 w hw) U hU a
  · exact vx_Zqof (args := args) (hts (.laysStatic Bundle.tN "UNASSIGNED_STACK" Bundle.steD) (zt_2 _ (List.mem_of_getElem? (i := 157) (by decide +kernel)))) (hts (.initialized Bundle.tN) (zt_1 _ (List.mem_of_getElem? (i := 16) (by decide +kernel)))) (flat_of_before _ hgv _ (by decide +kernel)) (fun a h1 h2 => by omega)
  · exact vx_Zqof (args := args) (hts (.laysStatic Bundle.tN "SUPPRESSED_SENTINEL" Bundle.listD) (zt_2 _ (List.mem_of_getElem? (i := 159) (by decide +kernel)))) (hts (.initialized Bundle.tN) (zt_1 _ (List.mem_of_getElem? (i := 16) (by decide +kernel)))) (flat_of_before _ hgv _ (by decide +kernel)) (fun a h1 h2 => by omega)
theorem zS_AA {args : Array Value} {s : State} (hts : ∀ w ∈ lw_tbl, w.before args s = true) : zAA s := ⟨va_AOA.from (hts (.arrayOver (.array .int)) (zt_3 _ (List.mem_of_getElem? (i := 215) (by decide +kernel)))), va_AOA.from (hts (.arrayOver (.array .boolean)) (zt_3 _ (List.mem_of_getElem? (i := 213) (by decide +kernel))))⟩
