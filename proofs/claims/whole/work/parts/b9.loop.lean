/-! the law's loop -/
theorem zL7A : ∀ L : Fin 7, (nI L.val - (7 : Int32)).toInt < 0 := by decide
theorem zL7 {L i : Nat} (hL : L ≤ 3584) (hi : i ≤ 4000) (h : ¬ (nI L - (7 : Int32)) < nI i) : i + 7 ≤ L := by
  by_cases g : 7 ≤ L
  · rw [show (7 : Int32) = nI 7 from rfl, zi_sub g, zi_lt (by omega) (by omega)] at h
    omega
  · exfalso
    apply h
    rw [Int32.lt_iff_toInt_lt, nI_toInt (by omega)]
    have := zL7A ⟨L, by omega⟩
    simp only at this
    omega
set_option maxHeartbeats 4000000 in
set_option maxRecDepth 100000 in
theorem zloop (K : Nat) (hK9 : 1000000 < K) {p : Program} {l : Launch} {e0 : Env} {s : State} {m : MethodId} {below : List Frame} {meth : Method} {cd : Code} {sb L : Nat} {xs : Nat → Int32} {G : va_G} {tt : Nat → ClassId} {sa : Nat → Nat} (C : zCtx p l s m meth cd sb L xs G tt sa) (a : Nat → Nat) (b : Nat → Nat → Nat) (d : Nat → Nat → Nat → Nat) (c : Nat → Nat) (ao : Nat) : ∀ (n i : Nat) (iI : Int32) (ce sl : Nat) (H0 : Heap) (locs : List Loc) (ls : Array Slot), L < n + i → i ≤ 3600 → iI = nI i → ce ≤ 2000 + i → sl ≤ 60000 + 6 * i → zWorld G tt a b d c ao (fun q : Nat => s.heap.size ≤ q) H0 → va_S (fun q : Nat => s.heap.size ≤ q) s.heap H0 locs → lv_has ls 9 [(0, .ref sb), (1, .ref (a 0)), (2, .ref (c 0)), (3, .ref ao), (4, .int iI)] → W p l e0 room_1 s m #[Value.ref sb] below meth cd H0 locs ce sl (lw_Z below #[Value.ref sb] s) (F0 m 23 ls [])
  | 0, i, iI, ce, sl, H0, locs, ls, hn, hi3, hiI, hce, hsl, hw, hS, hl => by
    obtain ⟨hlt, hL, C0, hK, hN, hX, hNc⟩ := C
    obtain ⟨hx, hb, hr, hml, hown, hts0, hX9, hbl, hlocks, hgv⟩ := C0
    have hbA : ¬ (fun q : Nat => s.heap.size ≤ q) sb := Nat.not_le.mpr hbl
    refine lv_iload hx hb dL_law_23 (lv_at hl 4 rfl) ?_
    refine lv_aload_n hx hb dL_law_25 rfl (lv_at hl 0 rfl) ?_
    refine va_slen hx hb hX9 hbl hbA hS dL_law_26 ?_
    refine lv_bipush (v := (7 : Int32)) hx hb dL_law_27 (by decide) ?_
    refine lv_isub hx hb dL_law_29 ?_
    refine lv_icmp_gt (tgt := 2790) hx hb dL_law_30 (by decide) (fun c1 => ?_) (fun c1 => ?_)
    · refine va_forget (fun q hq => hS.2.2 q hq) ?_
      refine W.widen (k := 601024) (n := 7293034) (by omega) (by omega) ?_
      refine lv_iconst (v := (1 : Int32)) hx hb dL_law_2790 (by decide) ?_
      exact lw_ret (d0 := s.drawn) (Drawn.sameBut.refl s.drawn lw_cs) hx hb hr hlocks dL_law_2791
    · rw [hiI] at c1
      have := zL7 hL (by omega) c1
      omega
  | n + 1, i, iI, ce, sl, H0, locs, ls, hn, hi3, hiI, hce, hsl, hw, hS, hl => by
    have C9 := C
    obtain ⟨hlt, hL, C0, hK, hN, hX, hNc⟩ := C
    obtain ⟨hx, hb, hr, hml, hown, hts0, hX9, hbl, hlocks, hgv⟩ := C0
    have hbA : ¬ (fun q : Nat => s.heap.size ≤ q) sb := Nat.not_le.mpr hbl
    refine lv_iload hx hb dL_law_23 (lv_at hl 4 rfl) ?_
    refine lv_aload_n hx hb dL_law_25 rfl (lv_at hl 0 rfl) ?_
    refine va_slen hx hb hX9 hbl hbA hS dL_law_26 ?_
    refine lv_bipush (v := (7 : Int32)) hx hb dL_law_27 (by decide) ?_
    refine lv_isub hx hb dL_law_29 ?_
    refine lv_icmp_gt (tgt := 2790) hx hb dL_law_30 (by decide) (fun c1 => ?_) (fun c1 => ?_)
    · refine va_forget (fun q hq => hS.2.2 q hq) ?_
      refine W.widen (k := 601024) (n := 7293034) (by omega) (by omega) ?_
      refine lv_iconst (v := (1 : Int32)) hx hb dL_law_2790 (by decide) ?_
      exact lw_ret (d0 := s.drawn) (Drawn.sameBut.refl s.drawn lw_cs) hx hb hr hlocks dL_law_2791
    · rw [hiI] at c1
      have hi7 := zL7 hL (by omega) c1
      refine lv_aload_n hx hb dL_law_33 rfl (lv_at hl 0 rfl) ?_
      refine lv_iload hx hb dL_law_34 (lv_at hl 4 rfl) ?_
      refine va_sld hx hb hX9 hbl hbA hS (by rw [hiI]; exact vp_in_nI (by omega) (by omega)) dL_law_36 ?_
      refine lv_bipush (v := (63 : Int32)) hx hb dL_law_37 (by decide) ?_
      refine lv_iand hx hb dL_law_39 ?_
      refine lv_topi (fun k ek => ?_)
      have kk : ∀ (H1 : Heap) (locs1 : List Loc) (ls1 : Array Slot), zWorld G tt a b d c ao (fun q : Nat => s.heap.size ≤ q) H1 → va_S (fun q : Nat => s.heap.size ≤ q) s.heap H1 locs1 → lv_has ls1 9 [(0, .ref sb), (1, .ref (a 0)), (2, .ref (c 0)), (3, .ref ao), (4, .int iI)] → W p l e0 room_1 s m #[Value.ref sb] below meth cd H1 locs1 (ce + 4) (sl + 24) (lw_Z below #[Value.ref sb] s) (F0 m 2784 ls1 []) := by
        intro H1 locs1 ls1 hw1 hS1 hl1
        refine lv_iinc (v := iI + (7 : Int32)) (lv' := [(4, .int (iI + (7 : Int32))), (0, .ref sb), (1, .ref (a 0)), (2, .ref (c 0)), (3, .ref ao)]) hx hb dL_law_2784 hl1 (k := 4) rfl rfl (by decide) rfl (fun ls2 hl2 => ?_)
        refine lv_goto (tgt := 23) hx hb dL_law_2787 (by decide) ?_
        exact zloop K hK9 C9 a b d c ao n (i + 7) (iI + (7 : Int32)) (ce + 4) (sl + 24) H1 locs1 ls2 (by omega) (by omega) (by rw [hiI, show (7 : Int32) = nI 7 from rfl, zi_add]) (by omega) (by omega) hw1 hS1 (lv_sub hl2 [1, 2, 3, 4, 0] rfl)
      by_cases co : k.toInt < 0 ∨ 40 < k.toInt
      · refine lv_tableOut (tgt := 2784) hx hb dL_law_40 co (by decide) ?_
        refine z_widen (k := ce + 4) (n := sl + 24) (by omega) (by omega) ?_
        exact kk H0 locs ls hw hS hl
      have co1 := fun q => co (Or.inl q)
      have co2 := fun q => co (Or.inr q)
      by_cases ej : k.toInt = 0
      · refine lv_tableIn (tgt := 220) (off := 180) hx hb dL_law_40 co1 co2 (by rw [ej]; rfl) (by decide) ?_
        exact zarm_addTable K hK9 C9 a b d c ao hi7 hiI (by omega) (by omega) hw hS hl kk
      have nj0 := ej
      clear ej
      by_cases ej : k.toInt = 1
      · refine lv_tableIn (tgt := 276) (off := 236) hx hb dL_law_40 co1 co2 (by rw [ej]; rfl) (by decide) ?_
        exact zarm_addFact K hK9 C9 a b d c ao hi7 hiI (by omega) (by omega) hw hS hl kk
      have nj1 := ej
      clear ej
      by_cases ej : k.toInt = 2
      · refine lv_tableIn (tgt := 368) (off := 328) hx hb dL_law_40 co1 co2 (by rw [ej]; rfl) (by decide) ?_
        exact zarm_removeFact K hK9 C9 a b d c ao hi7 hiI (by omega) (by omega) hw hS hl kk
      have nj2 := ej
      clear ej
      by_cases ej : k.toInt = 3
      · refine lv_tableIn (tgt := 460) (off := 420) hx hb dL_law_40 co1 co2 (by rw [ej]; rfl) (by decide) ?_
        exact zarm_addAtom K hK9 C9 a b d c ao hi7 hiI (by omega) (by omega) hw hS hl kk
      have nj3 := ej
      clear ej
      by_cases ej : k.toInt = 4
      · refine lv_tableIn (tgt := 564) (off := 524) hx hb dL_law_40 co1 co2 (by rw [ej]; rfl) (by decide) ?_
        exact zarm_clearQuery K hK9 C9 a b d c ao hi7 hiI (by omega) (by omega) hw hS hl kk
      have nj4 := ej
      clear ej
      by_cases ej : k.toInt = 5
      · refine lv_tableIn (tgt := 620) (off := 580) hx hb dL_law_40 co1 co2 (by rw [ej]; rfl) (by decide) ?_
        exact zarm_setOrder K hK9 C9 a b d c ao hi7 hiI (by omega) (by omega) hw hS hl kk
      have nj5 := ej
      clear ej
      by_cases ej : k.toInt = 6
      · refine lv_tableIn (tgt := 688) (off := 648) hx hb dL_law_40 co1 co2 (by rw [ej]; rfl) (by decide) ?_
        exact zarm_clearIdle K hK9 C9 a b d c ao hi7 hiI (by omega) (by omega) hw hS hl kk
      have nj6 := ej
      clear ej
      by_cases ej : k.toInt = 7
      · refine lv_tableIn (tgt := 756) (off := 716) hx hb dL_law_40 co1 co2 (by rw [ej]; rfl) (by decide) ?_
        exact zarm_addRule K hK9 C9 a b d c ao hi7 hiI (by omega) (by omega) hw hS hl kk
      have nj7 := ej
      clear ej
      by_cases ej : k.toInt = 8
      · refine lv_tableIn (tgt := 848) (off := 808) hx hb dL_law_40 co1 co2 (by rw [ej]; rfl) (by decide) ?_
        exact zarm_addRuleAtom K hK9 C9 a b d c ao hi7 hiI (by omega) (by omega) hw hS hl kk
      have nj8 := ej
      clear ej
      by_cases ej : k.toInt = 9
      · refine lv_tableIn (tgt := 982) (off := 942) hx hb dL_law_40 co1 co2 (by rw [ej]; rfl) (by decide) ?_
        exact zarm_dropRule K hK9 C9 a b d c ao hi7 hiI (by omega) (by omega) hw hS hl kk
      have nj9 := ej
      clear ej
      by_cases ej : k.toInt = 10
      · refine lv_tableIn (tgt := 1038) (off := 998) hx hb dL_law_40 co1 co2 (by rw [ej]; rfl) (by decide) ?_
        exact zarm_undo K hK9 C9 a b d c ao hi7 hiI (by omega) (by omega) hw hS hl kk
      have nj10 := ej
      clear ej
      by_cases ej : k.toInt = 11
      · refine lv_tableIn (tgt := 1051) (off := 1011) hx hb dL_law_40 co1 co2 (by rw [ej]; rfl) (by decide) ?_
        exact zarm_tableCount K hK9 C9 a b d c ao hi7 hiI (by omega) (by omega) hw hS hl kk
      have nj11 := ej
      clear ej
      by_cases ej : k.toInt = 12
      · refine lv_tableIn (tgt := 1064) (off := 1024) hx hb dL_law_40 co1 co2 (by rw [ej]; rfl) (by decide) ?_
        exact zarm_columns K hK9 C9 a b d c ao hi7 hiI (by omega) (by omega) hw hS hl kk
      have nj12 := ej
      clear ej
      by_cases ej : k.toInt = 13
      · refine lv_tableIn (tgt := 1120) (off := 1080) hx hb dL_law_40 co1 co2 (by rw [ej]; rfl) (by decide) ?_
        exact zarm_factCount K hK9 C9 a b d c ao hi7 hiI (by omega) (by omega) hw hS hl kk
      have nj13 := ej
      clear ej
      by_cases ej : k.toInt = 14
      · refine lv_tableIn (tgt := 1176) (off := 1136) hx hb dL_law_40 co1 co2 (by rw [ej]; rfl) (by decide) ?_
        exact zarm_rowCount K hK9 C9 a b d c ao hi7 hiI (by omega) (by omega) hw hS hl kk
      have nj14 := ej
      clear ej
      by_cases ej : k.toInt = 15
      · refine lv_tableIn (tgt := 1232) (off := 1192) hx hb dL_law_40 co1 co2 (by rw [ej]; rfl) (by decide) ?_
        exact zarm_isFact K hK9 C9 a b d c ao hi7 hiI (by omega) (by omega) hw hS hl kk
      have nj15 := ej
      clear ej
      by_cases ej : k.toInt = 16
      · refine lv_tableIn (tgt := 1331) (off := 1291) hx hb dL_law_40 co1 co2 (by rw [ej]; rfl) (by decide) ?_
        exact zarm_reasons K hK9 C9 a b d c ao hi7 hiI (by omega) (by omega) hw hS hl kk
      have nj16 := ej
      clear ej
      by_cases ej : k.toInt = 17
      · refine lv_tableIn (tgt := 1423) (off := 1383) hx hb dL_law_40 co1 co2 (by rw [ej]; rfl) (by decide) ?_
        exact zarm_rowAt K hK9 C9 a b d c ao hi7 hiI (by omega) (by omega) hw hS hl kk
      have nj17 := ej
      clear ej
      by_cases ej : k.toInt = 18
      · refine lv_tableIn (tgt := 1503) (off := 1463) hx hb dL_law_40 co1 co2 (by rw [ej]; rfl) (by decide) ?_
        exact zarm_firstFrom K hK9 C9 a b d c ao hi7 hiI (by omega) (by omega) hw hS hl kk
      have nj18 := ej
      clear ej
      by_cases ej : k.toInt = 19
      · refine lv_tableIn (tgt := 1595) (off := 1555) hx hb dL_law_40 co1 co2 (by rw [ej]; rfl) (by decide) ?_
        exact zarm_values K hK9 C9 a b d c ao hi7 hiI (by omega) (by omega) hw hS hl kk
      have nj19 := ej
      clear ej
      by_cases ej : k.toInt = 20
      · refine lv_tableIn (tgt := 1663) (off := 1623) hx hb dL_law_40 co1 co2 (by rw [ej]; rfl) (by decide) ?_
        exact zarm_lower K hK9 C9 a b d c ao hi7 hiI (by omega) (by omega) hw hS hl kk
      have nj20 := ej
      clear ej
      by_cases ej : k.toInt = 21
      · refine lv_tableIn (tgt := 1731) (off := 1691) hx hb dL_law_40 co1 co2 (by rw [ej]; rfl) (by decide) ?_
        exact zarm_atomCount K hK9 C9 a b d c ao hi7 hiI (by omega) (by omega) hw hS hl kk
      have nj21 := ej
      clear ej
      by_cases ej : k.toInt = 22
      · refine lv_tableIn (tgt := 1787) (off := 1747) hx hb dL_law_40 co1 co2 (by rw [ej]; rfl) (by decide) ?_
        exact zarm_answers K hK9 C9 a b d c ao hi7 hiI (by omega) (by omega) hw hS hl kk
      have nj22 := ej
      clear ej
      by_cases ej : k.toInt = 23
      · refine lv_tableIn (tgt := 1843) (off := 1803) hx hb dL_law_40 co1 co2 (by rw [ej]; rfl) (by decide) ?_
        exact zarm_answerAt K hK9 C9 a b d c ao hi7 hiI (by omega) (by omega) hw hS hl kk
      have nj23 := ej
      clear ej
      by_cases ej : k.toInt = 24
      · refine lv_tableIn (tgt := 1923) (off := 1883) hx hb dL_law_40 co1 co2 (by rw [ej]; rfl) (by decide) ?_
        exact zarm_seek K hK9 C9 a b d c ao hi7 hiI (by omega) (by omega) hw hS hl kk
      have nj24 := ej
      clear ej
      by_cases ej : k.toInt = 25
      · refine lv_tableIn (tgt := 2027) (off := 1987) hx hb dL_law_40 co1 co2 (by rw [ej]; rfl) (by decide) ?_
        exact zarm_leaps K hK9 C9 a b d c ao hi7 hiI (by omega) (by omega) hw hS hl kk
      have nj25 := ej
      clear ej
      by_cases ej : k.toInt = 26
      · refine lv_tableIn (tgt := 2083) (off := 2043) hx hb dL_law_40 co1 co2 (by rw [ej]; rfl) (by decide) ?_
        exact zarm_groups K hK9 C9 a b d c ao hi7 hiI (by omega) (by omega) hw hS hl kk
      have nj26 := ej
      clear ej
      by_cases ej : k.toInt = 27
      · refine lv_tableIn (tgt := 2151) (off := 2111) hx hb dL_law_40 co1 co2 (by rw [ej]; rfl) (by decide) ?_
        exact zarm_groupSize K hK9 C9 a b d c ao hi7 hiI (by omega) (by omega) hw hS hl kk
      have nj27 := ej
      clear ej
      by_cases ej : k.toInt = 28
      · refine lv_tableIn (tgt := 2231) (off := 2191) hx hb dL_law_40 co1 co2 (by rw [ej]; rfl) (by decide) ?_
        exact zarm_idleRows K hK9 C9 a b d c ao hi7 hiI (by omega) (by omega) hw hS hl kk
      have nj28 := ej
      clear ej
      by_cases ej : k.toInt = 29
      · refine lv_tableIn (tgt := 2299) (off := 2259) hx hb dL_law_40 co1 co2 (by rw [ej]; rfl) (by decide) ?_
        exact zarm_isTree K hK9 C9 a b d c ao hi7 hiI (by omega) (by omega) hw hS hl kk
      have nj29 := ej
      clear ej
      by_cases ej : k.toInt = 30
      · refine lv_tableIn (tgt := 2362) (off := 2322) hx hb dL_law_40 co1 co2 (by rw [ej]; rfl) (by decide) ?_
        exact zarm_cover K hK9 C9 a b d c ao hi7 hiI (by omega) (by omega) hw hS hl kk
      have nj30 := ej
      clear ej
      by_cases ej : k.toInt = 31
      · refine lv_tableIn (tgt := 2418) (off := 2378) hx hb dL_law_40 co1 co2 (by rw [ej]; rfl) (by decide) ?_
        exact zarm_bound K hK9 C9 a b d c ao hi7 hiI (by omega) (by omega) hw hS hl kk
      have nj31 := ej
      clear ej
      by_cases ej : k.toInt = 32
      · refine lv_tableIn (tgt := 2473) (off := 2433) hx hb dL_law_40 co1 co2 (by rw [ej]; rfl) (by decide) ?_
        exact zarm_ruleCount K hK9 C9 a b d c ao hi7 hiI (by omega) (by omega) hw hS hl kk
      have nj32 := ej
      clear ej
      by_cases ej : k.toInt = 33
      · refine lv_tableIn (tgt := 2486) (off := 2446) hx hb dL_law_40 co1 co2 (by rw [ej]; rfl) (by decide) ?_
        exact zarm_isIdle K hK9 C9 a b d c ao hi7 hiI (by omega) (by omega) hw hS hl kk
      have nj33 := ej
      clear ej
      by_cases ej : k.toInt = 34
      · refine lv_tableIn (tgt := 2549) (off := 2509) hx hb dL_law_40 co1 co2 (by rw [ej]; rfl) (by decide) ?_
        exact zarm_layerOf K hK9 C9 a b d c ao hi7 hiI (by omega) (by omega) hw hS hl kk
      have nj34 := ej
      clear ej
      by_cases ej : k.toInt = 35
      · refine lv_tableIn (tgt := 2605) (off := 2565) hx hb dL_law_40 co1 co2 (by rw [ej]; rfl) (by decide) ?_
        exact zarm_rounds K hK9 C9 a b d c ao hi7 hiI (by omega) (by omega) hw hS hl kk
      have nj35 := ej
      clear ej
      by_cases ej : k.toInt = 36
      · refine lv_tableIn (tgt := 2618) (off := 2578) hx hb dL_law_40 co1 co2 (by rw [ej]; rfl) (by decide) ?_
        exact zarm_firings K hK9 C9 a b d c ao hi7 hiI (by omega) (by omega) hw hS hl kk
      have nj36 := ej
      clear ej
      by_cases ej : k.toInt = 37
      · refine lv_tableIn (tgt := 2674) (off := 2634) hx hb dL_law_40 co1 co2 (by rw [ej]; rfl) (by decide) ?_
        exact zarm_meanReasons K hK9 C9 a b d c ao hi7 hiI (by omega) (by omega) hw hS hl kk
      have nj37 := ej
      clear ej
      by_cases ej : k.toInt = 38
      · refine lv_tableIn (tgt := 2715) (off := 2675) hx hb dL_law_40 co1 co2 (by rw [ej]; rfl) (by decide) ?_
        exact zarm_factShare K hK9 C9 a b d c ao hi7 hiI (by omega) (by omega) hw hS hl kk
      have nj38 := ej
      clear ej
      by_cases ej : k.toInt = 39
      · refine lv_tableIn (tgt := 2758) (off := 2718) hx hb dL_law_40 co1 co2 (by rw [ej]; rfl) (by decide) ?_
        exact zarm_errors K hK9 C9 a b d c ao hi7 hiI (by omega) (by omega) hw hS hl kk
      have nj39 := ej
      clear ej
      have ej : k.toInt = 40 := by omega
      refine lv_tableIn (tgt := 2771) (off := 2731) hx hb dL_law_40 co1 co2 (by rw [ej]; rfl) (by decide) ?_
      exact zarm_checksum K hK9 C9 a b d c ao hi7 hiI (by omega) (by omega) hw hS hl kk
