/-! a query: its answers are all of them -/
theorem zkey_eq {c y : Nat} (h0 : 0 < c) (h4 : c ≤ 4) (hy : y < 8 ^ c) : (512 * (if 0 < c then zdig c y 0 else 0) + 64 * (if 1 < c then zdig c y 1 else 0) + 8 * (if 2 < c then zdig c y 2 else 0) + (if 3 < c then zdig c y 3 else 0)) / 8 ^ (4 - c) = y := by
  unfold zdig
  have : c = 1 ∨ c = 2 ∨ c = 3 ∨ c = 4 := by omega
  rcases this with e | e | e | e <;> subst e <;> simp only [Nat.reduceLT, Nat.reduceSub, Nat.reducePow, if_true, if_false, Nat.lt_irrefl] at hy ⊢ <;> omega
theorem zaR_H {a : zA} (h : zaOK a) {f g : Nat → Nat} (e : ∀ v, v < 4 → zaH a v = true → f v = g v) : zaR a f = zaR a g := by
  obtain ⟨_, a2, a3, a4, a5, a6⟩ := h
  unfold zaR
  have e1 : f a.2.2.1 = g a.2.2.1 := e _ a4 (by unfold zaH; simp)
  rw [e1]
  by_cases g1 : 1 < a.2.1
  · have e2 : f a.2.2.2.1 = g a.2.2.2.1 := e _ a5 (by unfold zaH; simp [g1])
    rw [if_pos g1, if_pos g1, e2]
    by_cases g2 : 2 < a.2.1
    · have e3 : f a.2.2.2.2 = g a.2.2.2.2 := e _ a6 (by unfold zaH; simp [g2])
      rw [if_pos g2, if_pos g2, e3]
    · rw [if_neg g2, if_neg g2]
  · rw [if_neg g1, if_neg g1, if_neg (by omega), if_neg (by omega)]
theorem zsum_one : ∀ b : Bool, ∀ v : Fin 8, zsum (fun x => (b && decide (v.val = x)).toNat) 8 = b.toNat := by decide +kernel
theorem zgr_sum (P : Nat → Bool) (f : Nat → Nat) (hf : ∀ y, f y < 8) : zsum (fun x => zcnt (fun y => P y && decide (f y = x)) 4096) 8 = zcnt P 4096 := by
  unfold zcnt
  rw [zsum_swap (fun x y => (P y && decide (f y = x)).toNat) 8 4096]
  apply zsum_cong
  intro y _
  exact zsum_one (P y) ⟨f y, hf y⟩
theorem zy_aa259 (K : Nat) (hK : 1000000 < K) {s : Nat → Nat} {L : List (Nat → Nat)} {q v : Nat} (hq : q < 4) (hv : v < 4) (hs : zany (fun i => zaH (zqa s q i) v) (zqn s q) = true) (nA : Nat) (vCol : Nat → Int32) (vRo vA : Nat → Nat → Int32) (p4 p6 : Int32) (vVa : Nat → Int32) (se : Int64) {O : zObj} (h : zIc O s L) : ∃ O', zIc O' s L ∧ hL_areAll_259 K nA vCol vRo vA (nI q) p4 p6 (nI (zcnt (zqP (zRw s) s q) 4096)) 10 (nI v) 0 0 0 O vVa se = some (true, O', vVa, se) := by
  have e8 : (8 : Int32) = nI 8 := rfl
  have hsum := zgr_sum (zqP (zRw s) s q) (fun y => zvy s q y v) (fun y => zvy_lt s q y v)
  obtain ⟨x, ⟨O', hO', rfl⟩, e⟩ := z_for (F := fun k x (z : zObj) => hL_areAll_259 K nA vCol vRo vA (nI q) p4 p6 (nI (zcnt (zqP (zRw s) s q) 4096)) k (nI v) (nI (zcnt (fun x => zany (fun y => zqP (zRw s) s q y && decide (zvy s q y v = x)) 4096) x)) (nI (zsum (fun x => zcnt (fun y => zqP (zRw s) s q y && decide (zvy s q y v = x)) 4096) x)) (nI x) z vVa se) (n := 8) (inv := fun _ z => zIc z s L) (post := fun r => ∃ O', zIc O' s L ∧ r = (true, O', vVa, se))
    (by
      intro k x z hx hz
      left
      obtain ⟨O1, e1, h1⟩ := zd_groupSize K hK hz hq hv hs hx
      have hle := zcnt_le (fun y => zqP (zRw s) s q y && decide (zvy s q y v = x)) 4096
      have hno := zcnt_no (p := fun y => zqP (zRw s) s q y && decide (zvy s q y v = x)) 4096
      refine ⟨O1, h1, ?_⟩
      show hL_areAll_259 K nA vCol vRo vA (nI q) p4 p6 (nI (zcnt (zqP (zRw s) s q) 4096)) (k + 1) (nI v) (nI (zcnt (fun x => zany (fun y => zqP (zRw s) s q y && decide (zvy s q y v = x)) 4096) x)) (nI (zsum (fun x => zcnt (fun y => zqP (zRw s) s q y && decide (zvy s q y v = x)) 4096) x)) (nI x) z vVa se = hL_areAll_259 K nA vCol vRo vA (nI q) p4 p6 (nI (zcnt (zqP (zRw s) s q) 4096)) k (nI v) (nI (zcnt (fun x => zany (fun y => zqP (zRw s) s q y && decide (zvy s q y v = x)) 4096) x + (zany (fun y => zqP (zRw s) s q y && decide (zvy s q y v = x)) 4096).toNat)) (nI (zsum (fun x => zcnt (fun y => zqP (zRw s) s q y && decide (zvy s q y v = x)) 4096) x + zcnt (fun y => zqP (zRw s) s q y && decide (zvy s q y v = x)) 4096)) (nI (x + 1)) O1 vVa se
      rw [hL_areAll_259, if_neg (show ¬ (8 : Int32) ≤ nI x by rw [e8, zi_le (by omega) (by omega)]; omega), e1, Option.bind_some]
      unfold hL_areAll_289
      rw [nI_succ x, zi_add]
      cases ea : zany (fun y => zqP (zRw s) s q y && decide (zvy s q y v = x)) 4096
      · rw [if_pos (by rw [show (0 : Int32) = nI 0 from rfl, zi_le (by omega) (by omega)]; exact hno.2 ea), show (0 : Int32) = nI 0 from rfl, zi_add]
        rfl
      · rw [if_neg (by rw [show (0 : Int32) = nI 0 from rfl, zi_le (by omega) (by omega)]; intro g; rw [hno.1 g] at ea; cases ea), show (1 : Int32) = nI 1 from rfl, zi_add]
        rfl)
    (by
      intro k z hz
      obtain ⟨O1, e1, h1⟩ := zd_groups K hK hz hq hv hs
      refine ⟨_, ⟨O1, h1, rfl⟩, ?_⟩
      show hL_areAll_259 K nA vCol vRo vA (nI q) p4 p6 (nI (zcnt (zqP (zRw s) s q) 4096)) (k + 1) (nI v) (nI (zcnt (fun x => zany (fun y => zqP (zRw s) s q y && decide (zvy s q y v = x)) 4096) 8)) (nI (zsum (fun x => zcnt (fun y => zqP (zRw s) s q y && decide (zvy s q y v = x)) 4096) 8)) (nI 8) z vVa se = _
      rw [hL_areAll_259, if_pos (show (8 : Int32) ≤ nI 8 by decide), hsum, if_pos rfl, e1, Option.bind_some, if_pos rfl]) 8 10 0 O (by omega) h (by omega)
  exact ⟨O', hO', e⟩
theorem zy_areAll (K : Nat) (hK : 1000000 < K) {s : Nat → Nat} {L : List (Nat → Nat)} {q o many nA : Nat} {A : Nat → zA} {vCol : Nat → Int32} {vRo vA : Nat → Nat → Int32} (hq : q < 4) (ho : zqo s q = o) (hm : zyQm s q A many) (hn : 0 < zqn s q) (hmany : many < 50) (hA : zyA vCol vA A many nA) (hW : zyW (zRw s) vRo) {O : zObj} (h : zIc O s L) {vVa : Nat → Int32} (hval : ∃ val, zMv vVa val) (se : Int64) :
    ∃ O' vVa' se', zIc O' s L ∧ (∃ val, zMv vVa' val) ∧ hL_areAll K nA vCol vRo vA (nI q) (nI o) (nI many) (nI (zcnt (zqP (zRw s) s q) 4096)) O vVa se = some (true, O', vVa', se') := by
  obtain ⟨h1, h2, h3⟩ := h.1.2.2.2.2.2.1 q hq
  have hcl := zcnt_le (zqP (zRw s) s q) 4096
  have hc0 := zqc_pos h1 h2 hn
  have hc4 := zqc_le s q
  have hV16 := zqv_lt h1
  obtain ⟨O1, e1, hO1⟩ := zd_answers K hK h hq
  have hAj := hA.2.2
  -- the variables
  have e18 : ∀ O vVa, hL_areAll_18 K nA vCol vRo vA (nI q) (nI o) (nI many) (nI (zcnt (zqP (zRw s) s q) 4096)) K 0 0 O vVa se = hL_areAll_52 K nA vCol vRo vA (nI q) (nI o) (nI many) (nI (zcnt (zqP (zRw s) s q) 4096)) 16 (nI (zqv s q)) (-1) 0 O vVa se := by
    intro O vVa
    refine z_forE (F := fun k j (u : Nat) => hL_areAll_18 K nA vCol vRo vA (nI q) (nI o) (nI many) (nI (zcnt (zqP (zRw s) s q) 4096)) k (nI u) (nI j) O vVa se) (n := many) (inv := fun j u => u = zLV A (fun _ => false) false j) ?_ ?_ many K 0 0 (by omega) rfl (by omega)
    · intro k j u hj hu
      left
      refine ⟨_, rfl, ?_⟩
      have hv := zy_variables K (by omega) (hAj j hj)
      have hv' : hX13_variables K 4 vCol (vA j) (0 : Int32) = some (nI (zaS (A j))) := hv
      have hn1 := hA.1
      have hn2 := hA.2.1
      show hL_areAll_18 K nA vCol vRo vA (nI q) (nI o) (nI many) (nI (zcnt (zqP (zRw s) s q) 4096)) (k + 1) (nI u) (nI j) O vVa se = hL_areAll_18 K nA vCol vRo vA (nI q) (nI o) (nI many) (nI (zcnt (zqP (zRw s) s q) 4096)) k (nI (zLV A (fun _ => false) false j ||| if (fun _ => false) j = false then zaS (A j) else 0)) (nI (j + 1)) O vVa se
      rw [hL_areAll_18, if_neg (by rw [zi_le (by omega) (by omega)]; omega), if_pos (show inB (nI j) nA = true by rw [zi_inB (by omega)]; omega), zi_clamp (show j < 2147483648 by omega), hv', Option.bind_some, zi_or, hu, nI_succ]
      rfl
    · intro k u hu
      rw [hL_areAll_18, if_pos (by rw [zi_le (by omega) (by omega)]; exact Nat.le_refl _), hu, zyQm_V hm h1]
  -- the answers, one after the other
  obtain ⟨⟨O2, vV2, u⟩, ⟨k1, k2, _⟩, e52⟩ := z_forD (F := fun k a (z : zObj × (Nat → Int32) × Nat) => hL_areAll_52 K nA vCol vRo vA (nI q) (nI o) (nI many) (nI (zcnt (zqP (zRw s) s q) 4096)) k (nI (zqv s q)) (if z.2.2 = 0 then -1 else nI (z.2.2 - 1)) (nI a) z.1 z.2.1 se) (n := if zcnt (zqP (zRw s) s q) 4096 < 14 then zcnt (zqP (zRw s) s q) 4096 else 14)
    (inv := fun a z => zIc z.1 s L ∧ (∃ val, zMv z.2.1 val) ∧ zcnt (zqP (zRw s) s q) z.2.2 = a ∧ z.2.2 ≤ 4096)
    (D := fun z => hL_areAll_231 K nA vCol vRo vA (nI q) (nI o) (nI many) (nI (zcnt (zqP (zRw s) s q) 4096)) (nI (zqv s q)) z.1 z.2.1 se)
    (by
      rintro k a ⟨O1, vV, u⟩ ha ⟨w1, w2, w3, w4⟩
      have w1' : zIc O1 s L := w1
      have w3' : zcnt (zqP (zRw s) s q) u = a := w3
      have w4' : u ≤ 4096 := w4
      have ha14 : a < 14 := by split at ha <;> omega
      have had : a < zcnt (zqP (zRw s) s q) 4096 := by split at ha <;> omega
      obtain ⟨y, y1, y2, y3⟩ := zcnt_nth 4096 a had
      have huy : u ≤ y := by
        rcases Nat.lt_or_ge y u with g | g
        · have := zcnt_mono (zqP (zRw s) s q) (show y + 1 ≤ u by omega)
          rw [zcnt_s, y2] at this
          have e1 : (true).toNat = 1 := rfl
          omega
        · exact g
      obtain ⟨O2, vV2, vn2, k1, ⟨val, k2, k3⟩, k4, e98⟩ := zy_aa98 K hK hq ho (c := zqc s q) rfl (V := zqv s q) rfl y2 y3 had nA vCol vRo vA (nI many) (nI (zcnt (zqP (zRw s) s q) 4096)) (hL_areAll_52 K nA vCol vRo vA (nI q) (nI o) (nI many) (nI (zcnt (zqP (zRw s) s q) 4096)) k) (if u = 0 then -1 else nI (u - 1)) se w1' w2 (upd (upd (upd (upd (fun _ => (0 : Int32)) (0 : Int32).toNatClampNeg (0 : Int32)) (1 : Int32).toNatClampNeg (0 : Int32)) (2 : Int32).toNatClampNeg (0 : Int32)) (3 : Int32).toNatClampNeg (0 : Int32))
        (by
          intro m hm
          rw [zu_at, zu_at, zu_at, zu_at]
          split
          · rfl
          · split
            · rfl
            · split
              · rfl
              · split <;> rfl)
      have hyc : y < 8 ^ zqc s q := by
        have hy := y2
        unfold zqP zans at hy
        simp only [Bool.and_eq_true, decide_eq_true_eq] at hy
        exact hy.1.2
      -- all atoms fit
      have hfit : zall (fun j => zRw s (A j).1 (zaR (A j) val)) many = true := by
        rw [zall_iff]
        intro j hj
        obtain ⟨i, hi, ei⟩ := hm.2 j hj
        have hr := zqP_row h1 h2 hi y2
        rw [ei] at hr
        have : zaR (A j) val = zaR (A j) (zvy s q y) := by
          apply zaR_H (hAj j hj).2.2.1
          intro v hv hH
          refine k3 v hv ?_
          rw [zqv_bit h1 hv, zany_iff]
          exact ⟨i, hi, by rw [ei]; exact hH⟩
        rw [this]
        exact hr
      have efit := zy_fitAll K (by omega) hA hmany hW k2
      rw [hfit] at efit
      have hahead : ¬ nI y ≤ (if u = 0 then -1 else nI (u - 1)) := by
        by_cases g : u = 0
        · rw [if_pos g, zi_lem1 (by omega)]
          exact fun h => h
        · rw [if_neg g, zi_le (by omega) (by omega)]
          omega
      have h221 : ∀ O3, hL_areAll_221 K nA vCol vRo vA (nI q) (nI o) (nI many) (nI (zcnt (zqP (zRw s) s q) 4096)) (hL_areAll_52 K nA vCol vRo vA (nI q) (nI o) (nI many) (nI (zcnt (zqP (zRw s) s q) 4096)) k) (nI (zqv s q)) (nI a) (nI y) O3 vV2 se = hL_areAll_52 K nA vCol vRo vA (nI q) (nI o) (nI many) (nI (zcnt (zqP (zRw s) s q) 4096)) k (nI (zqv s q)) (if y + 1 = 0 then -1 else nI (y + 1 - 1)) (nI (a + 1)) O3 vV2 se := by
        intro O3
        unfold hL_areAll_221
        rw [if_neg (by omega), Nat.add_sub_cancel, nI_succ a]
      have hcnt1 : zcnt (zqP (zRw s) s q) (y + 1) = a + 1 := by
        rw [zcnt_s, y2, y3]; rfl
      have i0 : inB (0 : Int32) 4 = true := by decide
      have i1 : inB (1 : Int32) 4 = true := by decide
      have i2 : inB (2 : Int32) 4 = true := by decide
      have i3 : inB (3 : Int32) 4 = true := by decide
      have st : ∀ x, hL_areAll_98 K nA vCol vRo vA (nI q) (nI o) (nI many) (nI (zcnt (zqP (zRw s) s q) 4096)) (hL_areAll_52 K nA vCol vRo vA (nI q) (nI o) (nI many) (nI (zcnt (zqP (zRw s) s q) 4096)) k) 6 (nI (zqv s q)) (if u = 0 then -1 else nI (u - 1)) (nI a) 0 0 (1000 : Int32) O1 vV se (upd (upd (upd (upd (fun _ => (0 : Int32)) (0 : Int32).toNatClampNeg (0 : Int32)) (1 : Int32).toNatClampNeg (0 : Int32)) (2 : Int32).toNatClampNeg (0 : Int32)) (3 : Int32).toNatClampNeg (0 : Int32)) = x → hL_areAll_52 K nA vCol vRo vA (nI q) (nI o) (nI many) (nI (zcnt (zqP (zRw s) s q) 4096)) (k + 1) (nI (zqv s q)) (if u = 0 then -1 else nI (u - 1)) (nI a) O1 vV se = x := by
        intro x hx
        rw [← hx, hL_areAll_52, if_neg (by rw [zi_le (by omega) (by omega)]; omega), if_neg (show ¬ (14 : Int32) ≤ nI a by rw [show (14 : Int32) = nI 14 from rfl, zi_le (by omega) (by omega)]; omega), if_pos i0, if_pos i1, if_pos i2, if_pos i3]
      by_cases g5 : nI a - nI a / (5 : Int32) * (5 : Int32) = 0
      · have b8 : ∀ m, (if m < zqc s q then zdig (zqc s q) y m else 0) < 8 := by
          intro m
          split
          · exact Nat.mod_lt _ (by decide)
          · omega
        have hkey := zkey_eq hc0 hc4 hyc
        obtain ⟨O3, e3, hO3⟩ := zd_seek K hK k1 hq (b8 0) (b8 1) (b8 2) (b8 3) (by rw [hkey, y3]; exact had)
        rw [hkey, y3] at e3
        have eseek : hL_seek K 4 vn2 (nI q) O2 = some (nI a, O3) := by
          unfold hL_seek
          rw [if_pos i0, if_pos i1, if_pos i2, if_pos i3, show (0 : Int32).toNatClampNeg = 0 by decide, show (1 : Int32).toNatClampNeg = 1 by decide, show (2 : Int32).toNatClampNeg = 2 by decide, show (3 : Int32).toNatClampNeg = 3 by decide, k4 0 (by omega), k4 1 (by omega), k4 2 (by omega), k4 3 (by omega), e3, Option.bind_some]
        refine ⟨(O3, vV2, y + 1), ⟨hO3, ⟨val, k2⟩, hcnt1, show y + 1 ≤ 4096 by omega⟩, ?_⟩
        apply st
        rw [e98, if_neg hahead, efit, Option.bind_some, if_neg (show ¬ bI true = 0 by decide), if_pos g5, eseek, Option.bind_some, if_pos rfl]
        exact h221 O3
      · refine ⟨(O2, vV2, y + 1), ⟨k1, ⟨val, k2⟩, hcnt1, show y + 1 ≤ 4096 by omega⟩, ?_⟩
        apply st
        rw [e98, if_neg hahead, efit, Option.bind_some, if_neg (show ¬ bI true = 0 by decide), if_neg g5]
        exact h221 O2)
    (by
      rintro k ⟨O1, vV, u⟩ hinv
      show hL_areAll_52 K nA vCol vRo vA (nI q) (nI o) (nI many) (nI (zcnt (zqP (zRw s) s q) 4096)) (k + 1) (nI (zqv s q)) (if u = 0 then -1 else nI (u - 1)) (nI (if zcnt (zqP (zRw s) s q) 4096 < 14 then zcnt (zqP (zRw s) s q) 4096 else 14)) O1 vV se = _
      by_cases g : zcnt (zqP (zRw s) s q) 4096 < 14
      · rw [if_pos g, hL_areAll_52, if_pos (by rw [zi_le (by omega) (by omega)]; exact Nat.le_refl _)]
      · rw [if_neg g, hL_areAll_52, if_pos (show (14 : Int32) ≤ nI 14 by decide)]
        split <;> rfl)
    (if zcnt (zqP (zRw s) s q) 4096 < 14 then zcnt (zqP (zRw s) s q) 4096 else 14) 16 0 (O1, vVa, 0) (by omega) ⟨hO1, hval, rfl, Nat.zero_le _⟩ (by split <;> omega)
  have e52' : hL_areAll_52 K nA vCol vRo vA (nI q) (nI o) (nI many) (nI (zcnt (zqP (zRw s) s q) 4096)) 16 (nI (zqv s q)) (-1) 0 O1 vVa se = hL_areAll_231 K nA vCol vRo vA (nI q) (nI o) (nI many) (nI (zcnt (zqP (zRw s) s q) 4096)) (nI (zqv s q)) O2 vV2 se := e52
  obtain ⟨v, se2, hv, en⟩ := zy_next K (show 0 < 4 by omega) (by omega) se
  have en' : hX12_next K (4 : Int32) se = some (nI v, se2) := en
  have eh : hL_areAll K nA vCol vRo vA (nI q) (nI o) (nI many) (nI (zcnt (zqP (zRw s) s q) 4096)) O vVa se = hL_areAll_231 K nA vCol vRo vA (nI q) (nI o) (nI many) (nI (zcnt (zqP (zRw s) s q) 4096)) (nI (zqv s q)) O2 vV2 se := by
    unfold hL_areAll
    rw [e1, Option.bind_some, if_pos rfl]
    exact (e18 O1 vVa).trans e52'
  rw [eh]
  unfold hL_areAll_231
  rw [en', Option.bind_some]
  cases hb : (zqv s q).testBit v
  · refine ⟨O2, vV2, se2, k1, k2, ?_⟩
    rw [if_pos ((zy_bit hV16 hv).2 hb)]
  · obtain ⟨O3, hO3, e259⟩ := zy_aa259 K hK hq hv (by rw [← zqv_bit h1 hv]; exact hb) nA vCol vRo vA (nI o) (nI many) vV2 se2 k1
    refine ⟨O3, vV2, se2, hO3, k2, ?_⟩
    rw [if_neg (by rw [zy_bit hV16 hv, hb]; decide)]
    exact e259
theorem zIn_pos {α : Type} (sub : Nat → List α × Nat) (T : Nat → Nat → Nat) (nx : Nat → Nat) (all k t x like : Nat) : 1 ≤ (zIn sub T nx all (k + 1) t x like).2 := by
  rw [zIn]
  by_cases g1 : T (nx t) x = 8
  · rw [if_pos g1]; exact Nat.le_refl _
  · rw [if_neg g1]
    by_cases g2 : (if x < T (nx t) x then 1 else like + 1) < all
    · rw [if_pos g2]; exact Nat.le_add_left 1 _
    · rw [if_neg g2]; exact Nat.le_add_left 1 _
theorem zlp_pos {R : Nat → Nat → Bool} {A : Nat → zA} {n : Nat} {pl : Nat → Nat} {c : Nat} (hc : 0 < c) : 1 ≤ zlp R A n pl c := by
  unfold zlp
  rw [if_neg (by omega)]
  obtain ⟨c, rfl⟩ : ∃ z, c = z + 1 := ⟨c - 1, by omega⟩
  rw [zS]
  exact zIn_pos _ _ _ _ 59 _ _ _
