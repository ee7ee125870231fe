/-! without rules: a query in which each table stands once, and what is idle in it cleared -/
/-- an answer stays one while its rows stay -/
theorem zqP_stay {R R' : Nat → Nat → Bool} {s : Nat → Nat} {q y : Nat} (ho : zOr (zqo s q)) (h : zqP R s q y = true) (hR : ∀ i, i < zqn s q → R' (zqa s q i).1 (zaR (zqa s q i) (zvy s q y)) = true) : zqP R' s q y = true := by
  unfold zqP zans at h ⊢
  simp only [Bool.and_eq_true, decide_eq_true_eq] at h ⊢
  obtain ⟨⟨h0, h1⟩, h2⟩ := h
  refine ⟨⟨h0, h1⟩, ?_⟩
  unfold zfa
  refine zall_iff.2 (fun i hi => ?_)
  have this : (fun v => zext (zqpl s q) (zqc s q) 0 z0 y v % 8) = zvy s q y := by
    funext v
    unfold zvy
    rw [zpk_ext (zqD ho) h1]
  have e := hR i hi
  rw [← this] at e
  exact e
theorem zvy_sm {s s' : Nat → Nat} {q : Nat} (h : zsmQ s s' q) (y v : Nat) : zvy s' q y v = zvy s q y v := by
  obtain ⟨a1, a2, a3⟩ := h
  have hv : zqv s' q = zqv s q := by
    unfold zqv
    rw [a1]
    exact zLV_cong (fun i hi => ⟨a3 i hi, rfl⟩)
  have hpl : zqpl s' q = zqpl s q := by unfold zqpl; rw [hv, a2]
  have hc : zqc s' q = zqc s q := by unfold zqc; rw [hv, a2]
  unfold zvy
  rw [hpl, hc]
/-- nothing is lost by clearing -/
theorem zcl_same {s : Nat → Nat} (hW : zWF s) (hz : zrn s = 0) {q i : Nat} (hq : q < 4) (hi : i < zqn s q) (hd : ∀ j, j < zqn s q → (zqa s q j).1 = (zqa s q i).1 → j = i) {m : Nat → Bool} (hm : ∀ j, m j = zmade (zRw s) s q (zqa s q i) 4096 j) :
    zcnt (zqP (zRw (zcli s (zqa s q i).1 m 512)) (zcli s (zqa s q i).1 m 512) q) 4096 = zcnt (zqP (zRw s) s q) 4096 ∧
    zcnt (fun j => zRw (zcli s (zqa s q i).1 m 512) (zqa (zcli s (zqa s q i).1 m 512) q i).1 j && !zmade (zRw (zcli s (zqa s q i).1 m 512)) (zcli s (zqa s q i).1 m 512) q (zqa (zcli s (zqa s q i).1 m 512) q i) 4096 j) 512 = 0 := by
  obtain ⟨h1, h2, h3⟩ := hW.2.2.2.2.2.1 q hq
  have ht := (h1.2 i hi).1
  obtain ⟨w1, w2, w3, w4⟩ := zcli_WF hW ht m
  have hsm := w3 q hq
  have hz' : zrn (zcli s (zqa s q i).1 m 512) = 0 := w2.1.trans hz
  have hf := zcli_facts hW.2.2.1 ht m
  obtain ⟨s', hs'⟩ : ∃ x, x = zcli s (zqa s q i).1 m 512 := ⟨_, rfl⟩
  rw [← hs'] at w1 hsm hz' hf ⊢
  have hR' := zRw_none hz'
  have hR := zRw_none hz
  have hP : zqP (zRw s') s' q = zqP (zRw s) s q := by
    rw [zqP_sm hsm]
    funext y
    rw [Bool.eq_iff_iff]
    constructor
    · intro h
      refine zqP_stay h2 h (fun j hj => ?_)
      have e := zqP_row h1 h2 hj h
      rw [hR', hf _ _ (h1.2 j hj).1 (zaR_lt _ (fun v _ => zvy_lt s q y v) (h1.2 j hj)), Bool.and_eq_true] at e
      rw [hR]
      exact e.1
    · intro h
      refine zqP_stay h2 h (fun j hj => ?_)
      have e := zqP_row h1 h2 hj h
      have hr := zaR_lt (zvy s q y) (fun v _ => zvy_lt s q y v) (h1.2 j hj)
      rw [hR', hf _ _ (h1.2 j hj).1 hr, Bool.and_eq_true]
      rw [hR] at e
      refine ⟨e, ?_⟩
      by_cases g : (zqa s q j).1 = (zqa s q i).1
      · have gj := hd j hj g
        rw [gj] at hr ⊢
        have hy : y < 4096 := by
          have g2 : ¬ zall8 s q ≤ y := by
            intro g3
            rw [zqP_out g3] at h
            exact absurd h (by decide)
          have := zall8_le s q
          omega
        rw [hm, Bool.or_eq_true]
        right
        unfold zmade
        exact zany_iff.2 ⟨y, hy, by rw [h, decide_eq_true rfl]; rfl⟩
      · rw [decide_eq_false g]
        rfl
  refine ⟨by rw [hP], ?_⟩
  have ha : zqa s' q i = zqa s q i := hsm.2.2 i hi
  rw [ha]
  have hmd : ∀ j, zmade (zRw s') s' q (zqa s q i) 4096 j = m j := by
    intro j
    rw [hm]
    unfold zmade
    rw [hP]
    apply zany_cong
    intro y _
    rw [show zvy s' q y = zvy s q y from funext (fun v => zvy_sm hsm y v)]
  rw [zcnt_cong (q := fun _ => false) (fun j hj => by
    rw [hmd j, hR', hf _ j ht hj, decide_eq_true (rfl : (zqa s q i).1 = (zqa s q i).1)]
    cases zfacts s (zqa s q i).1 j <;> cases m j <;> rfl)]
  exact zsum_0 512
/-- the atoms of such a query: one more -/
theorem zy_cl91 (K : Nat) (hK : 1000000 < K) {s0 s : Nat → Nat} {L : List (Nat → Nat)} {A : Nat → zA} {M t : Nat} (hW0 : zWF s0) {vCol : Nat → Int32} (hC : zyC s0 vCol) (hM : M < 5) (ht : t < s0 0) (hQ : zQg s0 s 3 M A) {O : zObj} (h : zIc O s L) (vTa vRc : Int32) (vFa vRu : Nat → Nat → Int32) (r55 : Int32 → Int32 → Int32 → zObj → Int32 → (Nat → Nat → Int32) → (Nat → Int32) → (Nat → Int32) → Int64 → Nat → (Nat → Nat → Int32) → Option (Bool × zObj × Int32 × (Nat → Nat → Int32) × (Nat → Int32) × (Nat → Int32) × Int64)) (vRo : Nat → Nat → Int32) (vLa vVa : Nat → Int32) :
    ∀ c n, c < n → ∀ (d : Nat → Nat) (v : Nat → Nat → Int32) (se : Int64), c ≤ s0 (1 + t) → (∀ j, j < s0 (1 + t) - c → d j < 3) → (∀ j, s0 (1 + t) - c ≤ j → d j = 0) → v M 0 = nI t → (∀ j, j < 3 → v M (1 + j) = nI (d j)) →
    ∃ O' s' L' a v' se', hL_clears_91 K vTa vCol vFa vRu r55 n (nI M) (nI (zLV A (fun _ => false) false M)) (nI t) (nI (s0 (1 + t) - c)) O vRc vRo vLa vVa se 5 v = hL_clears_172 K vTa vCol vFa vRu r55 (nI (M + 1)) (nI (zLV (zup A M a) (fun _ => false) false (M + 1))) (nI t) O' vRc vRo vLa vVa se' 5 v' ∧ zIc O' s' L' ∧ zQg s0 s' 3 (M + 1) (zup A M a) ∧ a.1 = t ∧ zGt vCol (v' M) 4 0 a ∧ zvA a ∧ ∀ u, u ≠ M → v' u = v u := by
  have h05 := hW0.1
  have ht5 : t < 5 := by omega
  obtain ⟨c1, c3⟩ := hW0.2.1 t ht
  have hW := h.1
  obtain ⟨l0, l1, l2, l3⟩ := zQg_low hW0 hQ
  have iM : inB (nI M) 5 = true := zy_i5 hM
  intro c
  induction c with
  | zero =>
    intro n hn d v se _ hd3 hd0 hv0 hv
    obtain ⟨n, rfl⟩ : ∃ z, n = z + 1 := ⟨n - 1, by omega⟩
    have hd4 : ∀ j, d j < 4 := by
      intro j
      by_cases g : j < s0 (1 + t) - 0
      · have := hd3 j g; omega
      · have := hd0 j (by omega); omega
    have hvl : zvl 4 (s0 (1 + t)) (d 0) (d 1) (d 2) := by
      refine ⟨hd4 0, ?_, ?_⟩
      · split
        · exact hd4 1
        · exact hd0 1 (by omega)
      · split
        · exact hd4 2
        · exact hd0 2 (by omega)
    have hG : zGt vCol (v M) 4 0 (t, s0 (1 + t), d 0, d 1, d 2) := ⟨by omega, by omega, ⟨ht5, c1, c3, hd4 0, hd4 1, hd4 2⟩, hv0, hv 0 (by omega), hv 1 (by omega), hv 2 (by omega), hC t ht5⟩
    have hqn := hQ.2.1
    obtain ⟨O1, e3, hO1⟩ := zd_addAtom K hK h (k := 3) (t := t) (x := d 0) (y := d 1) (z := d 2) (by omega) (by rw [hqn]; exact hM) (by rw [l0]; exact ht) (by rw [l1 t ht5]; exact hvl)
    rw [hqn] at e3
    have e3' : hX11_addAtom K O (3 : Int32) (nI t) (nI (d 0)) (nI (d 1)) (nI (d 2)) = some (nI M, O1) := e3
    have hQ1 := zQg_add hW (show 3 < 4 by omega) hQ hM (a := (t, s0 (1 + t), d 0, d 1, d 2)) (by show t < s 0; rw [l0]; exact ht) (by show s0 (1 + t) = s (1 + t); rw [l1 t ht5])
    have hvar : hX13_variables K 4 vCol (v M) (0 : Int32) = some (nI (zaS (t, s0 (1 + t), d 0, d 1, d 2))) := zy_variables K (by omega) hG
    refine ⟨O1, _, _, (t, s0 (1 + t), d 0, d 1, d 2), v, se, ?_, hO1, hQ1, rfl, hG, hvl, fun u _ => rfl⟩
    have hlv : nI (zLV A (fun _ => false) false M) ||| nI (zaS (t, s0 (1 + t), d 0, d 1, d 2)) = nI (zLV (zup A M (t, s0 (1 + t), d 0, d 1, d 2)) (fun _ => false) false (M + 1)) := by
      rw [zi_or]
      congr 1
      show _ = zLV (zup A M (t, s0 (1 + t), d 0, d 1, d 2)) (fun _ => false) false M ||| (if false = false then zaS (zup A M (t, s0 (1 + t), d 0, d 1, d 2) M) else 0)
      rw [if_pos rfl, zup_at, zLV_up (A := zup A M (t, s0 (1 + t), d 0, d 1, d 2)) (B := A) (fun i hi => zup_ne _ _ (by omega))]
    have i1 : inB (1 : Int32) 4 = true := by decide
    have i2 : inB (2 : Int32) 4 = true := by decide
    have i3 : inB (3 : Int32) 4 = true := by decide
    have g1 : v M 1 = nI (d 0) := hv 0 (by omega)
    have g2 : v M 2 = nI (d 1) := hv 1 (by omega)
    have g3 : v M 3 = nI (d 2) := hv 2 (by omega)
    rw [hL_clears_91, if_pos (zy_i5 ht5), zi_clamp (show t < 2147483648 by omega), hC t ht5, if_pos (by rw [zi_le (by omega) (by omega)]; omega), if_pos iM, zi_clamp (show M < 2147483648 by omega), hvar, Option.bind_some, if_pos iM, if_pos i1, if_pos iM, if_pos i2, if_pos iM, if_pos i3, show (1 : Int32).toNatClampNeg = 1 by decide, show (2 : Int32).toNatClampNeg = 2 by decide, show (3 : Int32).toNatClampNeg = 3 by decide, g1, g2, g3, e3', Option.bind_some, if_pos rfl, hlv, ← nI_succ]
  | succ c ih =>
    intro n hn d v se hc hd3 hd0 hv0 hv
    obtain ⟨n, rfl⟩ : ∃ z, n = z + 1 := ⟨n - 1, by omega⟩
    obtain ⟨x, se1, hx, e1⟩ := zy_next K (show 0 < 3 by omega) (by omega) se
    have e1' : hX12_next K (3 : Int32) se = some (nI x, se1) := e1
    have ea : (1 : Int32) + nI (s0 (1 + t) - (c + 1)) = nI (1 + (s0 (1 + t) - (c + 1))) := by rw [show (1 : Int32) = nI 1 from rfl, zi_add]
    have hk1 : s0 (1 + t) - (c + 1) + 1 = s0 (1 + t) - c := by omega
    obtain ⟨O', s', L', a, v', se', e, k1, k2, k3, k4, k5, k6⟩ := ih n (by omega) (zup d (s0 (1 + t) - (c + 1)) x) (zup v M (upd (v M) (1 + (s0 (1 + t) - (c + 1))) (nI x))) se1 (by omega)
      (by
        intro j hj
        by_cases g : j = s0 (1 + t) - (c + 1)
        · rw [g, zup_at]; exact hx
        · rw [zup_ne _ _ g]; exact hd3 j (by omega))
      (by
        intro j hj
        rw [zup_ne _ _ (by omega)]
        exact hd0 j (by omega))
      (by rw [zup_at, zu_ne _ _ (by omega)]; exact hv0)
      (by
        intro j hj
        rw [zup_at]
        by_cases g : j = s0 (1 + t) - (c + 1)
        · rw [g, zu_same, zup_at]
        · rw [zu_ne _ _ (by omega), zup_ne _ _ g]; exact hv j hj)
    refine ⟨O', s', L', a, v', se', ?_, k1, k2, k3, k4, k5, fun u hu => (k6 u hu).trans (zup_ne _ _ hu)⟩
    rw [hL_clears_91, if_pos (zy_i5 ht5), zi_clamp (show t < 2147483648 by omega), hC t ht5, if_neg (by rw [zi_le (by omega) (by omega)]; omega), if_pos iM, e1', Option.bind_some, ea, if_pos (by rw [zi_inB (by omega)]; omega), zi_clamp (show M < 2147483648 by omega), zi_clamp (by omega), ← nI_succ, hk1]
    exact e
theorem zy_cl80 (K : Nat) (hK : 1000000 < K) {s0 s : Nat → Nat} {L : List (Nat → Nat)} {A : Nat → zA} {M t : Nat} (hW0 : zWF s0) {vCol : Nat → Int32} (hC : zyC s0 vCol) (hM : M < 5) (ht : t < s0 0) (hQ : zQg s0 s 3 M A) {O : zObj} (h : zIc O s L) (vTa vRc : Int32) (vFa vRu : Nat → Nat → Int32) (r55 : Int32 → Int32 → Int32 → zObj → Int32 → (Nat → Nat → Int32) → (Nat → Int32) → (Nat → Int32) → Int64 → Nat → (Nat → Nat → Int32) → Option (Bool × zObj × Int32 × (Nat → Nat → Int32) × (Nat → Int32) × (Nat → Int32) × Int64)) (vRo : Nat → Nat → Int32) (vLa vVa : Nat → Int32) {v : Nat → Nat → Int32} (hv : ∀ i, v M i = 0) (se : Int64) :
    ∃ O' s' L' a v' se', hL_clears_80 K vTa vCol vFa vRu r55 (nI M) (nI (zLV A (fun _ => false) false M)) (nI t) O vRc vRo vLa vVa se 5 v = r55 (nI (M + 1)) (nI (zLV (zup A M a) (fun _ => false) false (M + 1))) (nI (t + 1)) O' vRc vRo vLa vVa se' 5 v' ∧ zIc O' s' L' ∧ zQg s0 s' 3 (M + 1) (zup A M a) ∧ a.1 = t ∧ zGt vCol (v' M) 4 0 a ∧ zvA a ∧ ∀ u, u ≠ M → v' u = v u := by
  have h05 := hW0.1
  obtain ⟨c1, c3⟩ := hW0.2.1 t ht
  obtain ⟨O', s', L', a, v', se', e, k1, k2, k3, k4, k5, k6⟩ := zy_cl91 K hK hW0 hC hM ht hQ h vTa vRc vFa vRu r55 vRo vLa vVa (s0 (1 + t)) K (by omega) (fun _ => 0) (zup v M (upd (v M) 0 (nI t))) se (Nat.le_refl _) (fun j _ => by decide) (fun j _ => rfl) (by rw [zup_at, zu_same]) (fun j _ => by rw [zup_at, zu_ne _ _ (by omega), hv]; rfl)
  refine ⟨O', s', L', a, v', se', ?_, k1, k2, k3, k4, k5, fun u hu => (k6 u hu).trans (zup_ne _ _ hu)⟩
  rw [Nat.sub_self] at e
  unfold hL_clears_172 at e
  unfold hL_clears_80
  rw [if_pos (zy_i5 hM), if_pos (show inB (0 : Int32) 4 = true by decide), zi_clamp (show M < 2147483648 by omega), zy_c0, nI_succ t]
  exact e
/-- all of them -/
theorem zy_cl55 (K : Nat) (hK : 1000000 < K) {s0 : Nat → Nat} (hW0 : zWF s0) {vCol : Nat → Int32} (hC : zyC s0 vCol) (vRc : Int32) (vFa vRu vRo : Nat → Nat → Int32) (vLa vVa : Nat → Int32) : ∀ c n, c < n → ∀ {O : zObj} {s : Nat → Nat} {L : List (Nat → Nat)} {A : Nat → zA} {M : Nat} {v : Nat → Nat → Int32} (se : Int64), c ≤ s0 0 → M ≤ s0 0 - c → zIc O s L → zQg s0 s 3 M A → (∀ j, j < M → zGt vCol (v j) 4 0 (A j) ∧ zvA (A j)) → (∀ j, M ≤ j → ∀ i, v j i = 0) → (∀ j, j < M → (A j).1 < s0 0 - c) → (∀ i j, i < M → j < M → (A i).1 = (A j).1 → i = j) → 0 < M + c →
    ∃ O' s' L' A' M' v' se', hL_clears_55 K (nI (s0 0)) vCol vFa vRu n (nI M) (nI (zLV A (fun _ => false) false M)) (nI (s0 0 - c)) O vRc vRo vLa vVa se 5 v = hL_clears_184 K (nI (s0 0)) vCol vFa vRu K (nI M') (nI (zLV A' (fun _ => false) false M')) 0 0 O' vRc vRo vLa vVa se' 5 v' ∧ 0 < M' ∧ M' ≤ 5 ∧ zIc O' s' L' ∧ zQg s0 s' 3 M' A' ∧ (∀ j, j < M' → zGt vCol (v' j) 4 0 (A' j) ∧ zvA (A' j)) ∧ ∀ i j, i < M' → j < M' → (A' i).1 = (A' j).1 → i = j := by
  have h05 := hW0.1
  intro c
  induction c with
  | zero =>
    intro n hn O s L A M v se _ hMt h hQ hA hv0 hlt hd h0
    obtain ⟨n, rfl⟩ : ∃ z, n = z + 1 := ⟨n - 1, by omega⟩
    refine ⟨O, s, L, A, M, v, se, ?_, by omega, by omega, h, hQ, hA, hd⟩
    rw [hL_clears_55, if_pos (by rw [zi_le (by omega) (by omega)]; omega)]
  | succ c ih =>
    intro n hn O s L A M v se hc hMt h hQ hA hv0 hlt hd h0
    obtain ⟨n, rfl⟩ : ∃ z, n = z + 1 := ⟨n - 1, by omega⟩
    have hM5 : M < 5 := by omega
    have ht : s0 0 - (c + 1) < s0 0 := by omega
    have ht1 : s0 0 - (c + 1) + 1 = s0 0 - c := by omega
    have add : ∀ se1, ∃ O' s' L' A' M' v' se', hL_clears_80 K (nI (s0 0)) vCol vFa vRu (hL_clears_55 K (nI (s0 0)) vCol vFa vRu n) (nI M) (nI (zLV A (fun _ => false) false M)) (nI (s0 0 - (c + 1))) O vRc vRo vLa vVa se1 5 v = hL_clears_184 K (nI (s0 0)) vCol vFa vRu K (nI M') (nI (zLV A' (fun _ => false) false M')) 0 0 O' vRc vRo vLa vVa se' 5 v' ∧ 0 < M' ∧ M' ≤ 5 ∧ zIc O' s' L' ∧ zQg s0 s' 3 M' A' ∧ (∀ j, j < M' → zGt vCol (v' j) 4 0 (A' j) ∧ zvA (A' j)) ∧ ∀ i j, i < M' → j < M' → (A' i).1 = (A' j).1 → i = j := by
      intro se1
      obtain ⟨O1, s1, L1, a, v1, se2, e, k1, k2, k3, k4, k5, k6⟩ := zy_cl80 K hK hW0 hC hM5 ht hQ h (nI (s0 0)) vRc vFa vRu (hL_clears_55 K (nI (s0 0)) vCol vFa vRu n) vRo vLa vVa (v := v) (hv0 M (Nat.le_refl M)) se1
      have hup : ∀ j, j < M → zup A M a j = A j := fun j hj => zup_ne _ _ (by omega)
      have hat : zup A M a M = a := zup_at _ _ _
      obtain ⟨O', s', L', A', M', v', se', e', m1, m2, m3, m4, m5, m6⟩ := ih n (by omega) se2 (by omega) (show M + 1 ≤ s0 0 - c by omega) k1 k2 (v := v1)
        (by
          intro j hj
          by_cases g : j = M
          · rw [g, hat]; exact ⟨k4, k5⟩
          · rw [hup j (by omega), k6 j g]; exact hA j (by omega))
        (by
          intro j hj i
          rw [k6 j (by omega)]
          exact hv0 j (by omega) i)
        (by
          intro j hj
          by_cases g : j = M
          · rw [g, hat, k3]; omega
          · rw [hup j (by omega)]
            have := hlt j (by omega)
            omega)
        (by
          intro i j hi hj he
          by_cases gi : i = M
          · by_cases gj : j = M
            · omega
            · rw [gi, hat, hup j (by omega), k3] at he
              have := hlt j (by omega)
              omega
          · by_cases gj : j = M
            · rw [gj, hat, hup i (by omega), k3] at he
              have := hlt i (by omega)
              omega
            · rw [hup i (by omega), hup j (by omega)] at he
              exact hd i j (by omega) (by omega) he)
        (by omega)
      refine ⟨O', s', L', A', M', v', se', ?_, m1, m2, m3, m4, m5, m6⟩
      rw [ht1] at e
      exact e.trans e'
    by_cases g0 : M = 0
    · obtain ⟨O', s', L', A', M', v', se', e, m⟩ := add se
      refine ⟨O', s', L', A', M', v', se', ?_, m⟩
      rw [hL_clears_55, if_neg (by rw [zi_le (by omega) (by omega)]; omega), if_pos (show nI M ≤ 0 by rw [show (0 : Int32) = nI 0 from rfl, zi_le (by omega) (by omega)]; omega)]
      exact e
    · obtain ⟨x, se1, hx, e1⟩ := zy_next K (show 0 < 4 by omega) (by omega) se
      have e1' : hX12_next K (4 : Int32) se = some (nI x, se1) := e1
      by_cases gx : x = 0
      · obtain ⟨O', s', L', A', M', v', se', e, m⟩ := ih n (by omega) se1 (by omega) (show M ≤ s0 0 - c by omega) h hQ hA hv0 (fun j hj => by have := hlt j hj; omega) hd (by omega)
        refine ⟨O', s', L', A', M', v', se', ?_, m⟩
        rw [hL_clears_55, if_neg (by rw [zi_le (by omega) (by omega)]; omega), if_neg (show ¬ nI M ≤ 0 by rw [show (0 : Int32) = nI 0 from rfl, zi_le (by omega) (by omega)]; omega), e1', Option.bind_some, if_pos (show nI x = 0 by rw [gx]; rfl)]
        unfold hL_clears_172
        rw [← nI_succ, ht1]
        exact e
      · obtain ⟨O', s', L', A', M', v', se', e, m⟩ := add se1
        refine ⟨O', s', L', A', M', v', se', ?_, m⟩
        rw [hL_clears_55, if_neg (by rw [zi_le (by omega) (by omega)]; omega), if_neg (show ¬ nI M ≤ 0 by rw [show (0 : Int32) = nI 0 from rfl, zi_le (by omega) (by omega)]; omega), e1', Option.bind_some, if_neg (show ¬ nI x = 0 by rw [show (0 : Int32) = nI 0 from rfl, zi_eq (by omega) (by omega)]; exact gx)]
        exact e
/-- what is asked of such a query -/
theorem zy_cl184 (K : Nat) (hK : 1000000 < K) {s0 s : Nat → Nat} {L : List (Nat → Nat)} (hW0 : zWF s0) (hz : zrn s0 = 0) {vCol : Nat → Int32} {vFa vRo : Nat → Nat → Int32} (hF : zyW (zfacts s0) vFa) (hRo : zyW (zRw s0) vRo) (ho : zqo s0 3 = 123) {A : Nat → zA} {m : Nat} (hm0 : 0 < m) (hm : m ≤ 5) {vA : Nat → Nat → Int32} (hA : ∀ j, j < m → zGt vCol (vA j) 4 0 (A j) ∧ zvA (A j)) (hd : ∀ i j, i < m → j < m → (A i).1 = (A j).1 → i = j) {O : zObj} (h : zIc O s L) (hQ : zQg s0 s 3 m A) (vTa vRc : Int32) (vRu : Nat → Nat → Int32) (vLa vVa : Nat → Int32) (se : Int64) :
    ∃ O' s' L' vVa' se', hL_clears_184 K vTa vCol vFa vRu K (nI m) (nI (zLV A (fun _ => false) false m)) 0 0 O vRc vRo vLa vVa se 5 vA = some (true, O', vRc, vRo, vLa, vVa', se') ∧ zIc O' s' L' := by
  have hW := h.1
  obtain ⟨o1, o2, o3⟩ := hW.2.2.2.2.2.1 3 (by omega)
  obtain ⟨l0, l1, l2, l3⟩ := zQg_low hW0 hQ
  have hR1 := zQg_rows hW0 hQ
  have hon := hQ.2.1
  have hoa := hQ.2.2.1
  have hz1 : zrn s = 0 := l2.1.trans hz
  have hmo : zyQm s 3 A m := ⟨fun i hi => ⟨i, by rw [← hon]; exact hi, hoa i (by rw [← hon]; exact hi)⟩, fun j hj => ⟨j, by rw [hon]; exact hj, hoa j hj⟩⟩
  have hV := zyQm_V hmo o1
  have hV16 := zqv_lt o1
  have ho1 : zqo s 3 = 123 := by show s (2566 + 3) = 123; rw [hQ.1 _ (by omega)]; exact ho
  have hAA : zyA vCol vA A m 5 := ⟨hm, by omega, fun j hj => (hA j hj).1⟩
  have hc4 : zpc 123 (zqv s 3) 4 ≤ 4 := zpc_le 123 (zqv s 3) 4
  have h8 := zp8 hc4
  have hdue := zy_due (R := zRw s) hmo o1 o2 (by rw [hon]; exact hm0)
  have hcl := zcnt_le (zqP (zRw s) s 3) 4096
  rw [hV]
  obtain ⟨vV1, _, e184⟩ := z_forD (F := fun k n (z : Nat → Int32) => hL_clears_184 K vTa vCol vFa vRu k (nI m) (nI (zqv s 3)) (nI (zcnt (zdue (zRw s) A m (zqv s 3)) n)) (nI n) O vRc vRo vLa z se 5 vA) (n := 8 ^ zpc 123 (zqv s 3) 4) (inv := fun _ _ => True) (D := fun z => hL_clears_184 K vTa vCol vFa vRu 1 (nI m) (nI (zqv s 3)) (nI (zcnt (zqP (zRw s) s 3) 4096)) (nI (8 ^ zpc 123 (zqv s 3) 4)) O vRc vRo vLa z se 5 vA)
    (by
      intro k n z hn _
      obtain ⟨z', ec, hz'⟩ := zy_chooses K (by omega) hV16 (show n < 100000 by omega) z
      have ef := zy_fitAll K (by omega) hAA (show m < 50 by omega) (zyW_R hR1 hRo) hz'
      refine ⟨z', trivial, ?_⟩
      show hL_clears_184 K vTa vCol vFa vRu (k + 1) (nI m) (nI (zqv s 3)) (nI (zcnt (zdue (zRw s) A m (zqv s 3)) n)) (nI n) O vRc vRo vLa z se 5 vA = hL_clears_184 K vTa vCol vFa vRu k (nI m) (nI (zqv s 3)) (nI (zcnt (zdue (zRw s) A m (zqv s 3)) n + (zdue (zRw s) A m (zqv s 3) n).toNat)) (nI (n + 1)) O vRc vRo vLa z' se 5 vA
      have ef' : hL_fitAll K 5 vCol vRo z' vA (nI m) = some (zdue (zRw s) A m (zqv s 3) n) := ef
      rw [hL_clears_184, ec, Option.bind_some, decide_eq_true hn, if_neg (show ¬ bI true = 0 by decide), ef', Option.bind_some]
      unfold hL_clears_212
      rw [nI_succ n]
      cases zdue (zRw s) A m (zqv s 3) n
      · rw [if_pos (show bI false = 0 from rfl), show (0 : Int32) = nI 0 from rfl, zi_add]; rfl
      · rw [if_neg (show ¬ bI true = 0 by decide), show (1 : Int32) = nI 1 from rfl, zi_add]; rfl)
    (by
      intro k z _
      obtain ⟨z', ec, hz'⟩ := zy_chooses K (by omega) hV16 (show 8 ^ zpc 123 (zqv s 3) 4 < 100000 by omega) z
      rw [hL_clears_184, hL_clears_184, ec, Option.bind_some, Option.bind_some, decide_eq_false (Nat.lt_irrefl _), if_pos (show bI false = 0 from rfl), if_pos (show bI false = 0 from rfl), hdue]) (8 ^ zpc 123 (zqv s 3) 4) K 0 vVa (by omega) trivial (by omega)
  have e184' : hL_clears_184 K vTa vCol vFa vRu K (nI m) (nI (zqv s 3)) 0 0 O vRc vRo vLa vVa se 5 vA = hL_clears_184 K vTa vCol vFa vRu 1 (nI m) (nI (zqv s 3)) (nI (zcnt (zqP (zRw s) s 3) 4096)) (nI (8 ^ zpc 123 (zqv s 3) 4)) O vRc vRo vLa vV1 se 5 vA := e184
  obtain ⟨vV2, ec, hz2⟩ := zy_chooses K (by omega) hV16 (show 8 ^ zpc 123 (zqv s 3) 4 < 100000 by omega) vV1
  obtain ⟨O2, vV3, se3, hO2, hval3, eA⟩ := zy_areAll K hK (q := 3) (by omega) ho1 hmo (by rw [hon]; exact hm0) (by omega) hAA (zyW_R hR1 hRo) h ⟨_, hz2⟩ se
  have eA' : hL_areAll K 5 vCol vRo vA (3 : Int32) (123 : Int32) (nI m) (nI (zcnt (zqP (zRw s) s 3) 4096)) O vV2 se = some (true, O2, vV3, se3) := eA
  obtain ⟨at', se4, hat, e9⟩ := zy_next K hm0 (by omega) se3
  have hat3 : at' < zqn s 3 := by rw [hon]; exact hat
  have aT := hoa at' hat
  obtain ⟨⟨_, _, aok, ag0, _⟩, _⟩ := hA at' hat
  have ag0' : vA at' 0 = nI (A at').1 := ag0
  have ht5 := aok.1
  have htl : (A at').1 < s 0 := by
    have := o3 at' hat3
    rw [aT] at this
    exact this
  obtain ⟨O3, e10, hO3⟩ := zd_idleRows K hK hO2 (k := 3) (i := at') (by omega) hat3
  obtain ⟨O4, e11, hO4⟩ := zd_checksum K hK hO3
  obtain ⟨O5, mk, hmk, e12, hO5⟩ := zd_clearIdle K hK hO4 (k := 3) (i := at') (by omega) hat3
  obtain ⟨n1, n2⟩ := zcl_same hW hz1 (q := 3) (by omega) hat3 (fun j hj he => hd j at' (by rw [← hon]; exact hj) hat (by rw [← hoa j (by rw [← hon]; exact hj), ← aT]; exact he)) hmk
  obtain ⟨w1, w2, w3, w4⟩ := zcli_WF hW (o1.2 at' hat3).1 mk
  have hf' := zcli_facts hW.2.2.1 (o1.2 at' hat3).1 mk
  have h00 : zcli s (zqa s 3 at').1 mk 512 0 = s 0 := by
    unfold zcli
    rw [if_neg (by omega)]
  obtain ⟨s', hs'⟩ : ∃ x, x = zcli s (zqa s 3 at').1 mk 512 := ⟨_, rfl⟩
  rw [← hs'] at hO5 n1 n2 w3 hf' h00
  have hn' : zqn s' 3 = zqn s 3 := (w3 3 (by omega)).1
  obtain ⟨O6, e13, hO6⟩ := zd_answers K hK hO5 (k := 3) (by omega)
  rw [n1] at e13
  obtain ⟨O7, e14, hO7⟩ := zd_idleRows K hK hO6 (k := 3) (i := at') (by omega) (by rw [hn']; exact hat3)
  rw [n2] at e14
  have e15 := zd_factCount K hK hO7 (t := (A at').1) (by rw [h00]; exact htl)
  obtain ⟨O8, e16, hO8⟩ := zd_undo K hK hO7
  obtain ⟨O9, e17, hO9⟩ := zd_checksum K hK hO8
  have e18 := zd_factCount K hK hO9 (t := (A at').1) htl
  have hFs : zyW (zfacts s) vFa := zyW_R (fun t k ht hk => l3 t k ht hk) hF
  have ef : hX13_factCount K vFa (nI (A at').1) = some (nI (zcnt (zfacts s (A at').1) 512)) := zy_fcount K (by omega) hFs ht5
  -- how many
  have hR := zRw_none hz1
  have hidle : zcnt (fun j => zRw s (zqa s 3 at').1 j && !zmade (zRw s) s 3 (zqa s 3 at') 4096 j) 512 = zcnt (fun j => zfacts s (A at').1 j && !mk j) 512 := zcnt_cong (fun j _ => by rw [hR, ← hR, hmk j, hR, aT])
  have hmine : zcnt (fun j => zfacts s (zqa s 3 at').1 j && !mk j) 512 = zcnt (fun j => zfacts s (A at').1 j && !mk j) 512 := by rw [aT]
  rw [hidle] at e10
  rw [hmine] at e12
  have hafter : zcnt (zfacts s' (A at').1) 512 = zcnt (fun j => zfacts s (A at').1 j && mk j) 512 := zcnt_cong (fun j hj => by
    rw [hf' _ j ht5 hj, decide_eq_true (show (A at').1 = (zqa s 3 at').1 by rw [aT])]
    cases zfacts s (A at').1 j <;> cases mk j <;> rfl)
  have hpm := zcnt_pm (zfacts s (A at').1) mk 512
  have hle := zcnt_le (zfacts s (A at').1) 512
  have e10' : hX11_idleRows K O2 (3 : Int32) (nI at') = _ := e10
  have e12' : hX11_clearIdle K O4 (3 : Int32) (nI at') = _ := e12
  have e13' : hX11_answers K O5 (3 : Int32) = _ := e13
  have e14' : hX11_idleRows K O6 (3 : Int32) (nI at') = _ := e14
  have im : inB (nI at') 5 = true := by rw [zi_inB (by omega)]; omega
  have hcnt : nI (zcnt (zfacts s' (A at').1) 512) = nI (zcnt (zfacts s (A at').1) 512) - nI (zcnt (fun j => zfacts s (A at').1 j && !mk j) 512) := by
    rw [zi_sub (by omega), hafter, show zcnt (fun j => zfacts s (A at').1 j && mk j) 512 = zcnt (zfacts s (A at').1) 512 - zcnt (fun j => zfacts s (A at').1 j && !mk j) 512 by omega]
  refine ⟨O9, s, _, vV3, se4, ?_, hO9⟩
  refine e184'.trans ?_
  rw [hL_clears_184, ec, Option.bind_some, decide_eq_false (Nat.lt_irrefl _), if_pos (show bI false = 0 from rfl), eA', Option.bind_some, if_neg (show ¬ bI true = 0 by decide), e9, Option.bind_some, if_pos im, if_pos (show inB (0 : Int32) 4 = true by decide), e10', Option.bind_some, e11, Option.bind_some, e12', Option.bind_some, if_pos rfl, e13', Option.bind_some, if_pos rfl, e14', Option.bind_some, if_pos (show nI 0 = 0 from rfl), zi_clamp (show at' < 2147483648 by omega), zy_c0, ag0', e15, Option.bind_some, ef, Option.bind_some, if_pos hcnt, e16, Option.bind_some, if_neg (nI_pos (by rw [List.length_take]; omega)), e17, Option.bind_some, if_pos rfl, e18, Option.bind_some, Option.bind_some, if_pos rfl]
/-- the rules dropped -/
theorem zy_cl0 (K : Nat) (hK : 1000000 < K) {s0 : Nat → Nat} (vTa : Int32) (vCol : Nat → Int32) (vFa vRu vRo : Nat → Nat → Int32) (vLa vVa : Nat → Int32) (se : Int64) : ∀ c n, c < n → ∀ {O : zObj} {s : Nat → Nat} {L : List (Nat → Nat)}, zIc O s L → zrn s = c → (∀ i, i < 2654 → s i = s0 i) →
    ∃ O' s' L' n', hL_clears_0 K vTa vCol vFa vRu n O (nI c) vRo vLa vVa se = hL_clears_0 K vTa vCol vFa vRu (n' + 1) O' 0 vRo vLa vVa se ∧ zIc O' s' L' ∧ zrn s' = 0 ∧ ∀ i, i < 2654 → s' i = s0 i := by
  intro c
  induction c with
  | zero =>
    intro n hn O s L h hc hs
    obtain ⟨n, rfl⟩ : ∃ z, n = z + 1 := ⟨n - 1, by omega⟩
    exact ⟨O, s, L, n, rfl, h, hc, hs⟩
  | succ c ih =>
    intro n hn O s L h hc hs
    obtain ⟨n, rfl⟩ : ∃ z, n = z + 1 := ⟨n - 1, by omega⟩
    have hrn := h.1.2.2.2.2.2.2.1.1
    obtain ⟨f1, f2, f3⟩ := zdrop_facts h.1 (r := 0) (by omega)
    obtain ⟨O1, e1, hO1⟩ := zd_dropRule K hK h (u := 0) (by omega)
    rw [hc, Nat.add_sub_cancel] at e1
    have e1' : hX11_dropRule K O (0 : Int32) = some (nI c, O1) := e1
    obtain ⟨O', s', L', n', e, k1, k2, k3⟩ := ih n (by omega) hO1 (by rw [f2, hc, Nat.add_sub_cancel]) (fun i hi => (f1 i hi).trans (hs i hi))
    refine ⟨O', s', L', n', ?_, k1, k2, k3⟩
    have em : nI (c + 1) - (1 : Int32) = nI c := nI_pred c
    rw [hL_clears_0, if_neg (show ¬ nI (c + 1) ≤ 0 by rw [show (0 : Int32) = nI 0 from rfl, zi_le (by omega) (by omega)]; omega), e1', Option.bind_some, em, if_pos rfl]
    exact e
theorem zy_clears (K : Nat) (hK : 1000000 < K) {s0 : Nat → Nat} {L0 : List (Nat → Nat)} {O : zObj} (h : zIc O s0 L0) (hT : 3 ≤ s0 0) {vCol : Nat → Int32} (hC : zyC s0 vCol) {vFa : Nat → Nat → Int32} (hF : zyW (zfacts s0) vFa) (hq : zqn s0 3 = 0) (ho : zqo s0 3 = 123) (vRu vRo : Nat → Nat → Int32) (vLa vVa : Nat → Int32) (se : Int64) :
    ∃ O' s' L' vRc' vRo' vLa' vVa' se', hL_clears K (nI (s0 0)) vCol vFa vRu O (nI (zrn s0)) vRo vLa vVa se = some (true, O', vRc', vRo', vLa', vVa', se') ∧ zIc O' s' L' := by
  have hrn := h.1.2.2.2.2.2.2.1.1
  have h05 := h.1.1
  obtain ⟨O1, s1, L1, n1, e1, hO1, hz, hs⟩ := zy_cl0 K hK (s0 := s0) (nI (s0 0)) vCol vFa vRu vRo vLa vVa se (zrn s0) 8 (by omega) h rfl (fun i _ => rfl)
  have hW1 := hO1.1
  have hC1 : zyC s1 vCol := zyC_low hC hs
  have hF1 : zyW (zfacts s1) vFa := by
    intro t k ht hk
    rw [hF t k ht hk]
    unfold zfacts
    rw [hs _ (by omega)]
  have hRu : zyR s1 vRu := by
    intro r hr
    rw [hz] at hr
    exact absurd hr (Nat.not_lt_zero _)
  obtain ⟨vRo', vLa', vVa', e2, hRo, hLa⟩ := zy_follows K (by omega) hW1 hC1 hRu hF1 vRo vLa vVa
  rw [hz] at e2
  have e2' : hX13_follows K 0 vCol vFa vRu vRo vLa vVa = some (vRo', vLa', vVa') := e2
  have h10 : s1 0 = s0 0 := hs 0 (by omega)
  have hq1 : zqn s1 3 = 0 := by
    show s1 (2570 + 21 * 3) = 0
    rw [hs _ (by omega)]
    exact hq
  have ho1 : zqo s1 3 = 123 := by
    show s1 (2566 + 3) = 123
    rw [hs _ (by omega)]
    exact ho
  obtain ⟨t, se1, ht, e3⟩ := zy_next K (show 0 < 2 by omega) (by omega) se
  have e3' : hX12_next K (2 : Int32) se = some (nI t, se1) := e3
  obtain ⟨O2, s2, L2, A, M, vA, se2, e4, m0, m5, hO2, hQ2, hA, hd⟩ := zy_cl55 K hK hW1 hC1 0 vFa vRu vRo' vLa' vVa' (s1 0 - t) 7 (by omega) (A := fun _ => (0, 0, 0, 0, 0)) (M := 0) (v := fun _ _ => (0 : Int32)) se1 (by omega) (Nat.zero_le _) hO1 ⟨fun i _ => rfl, hq1, fun j hj => absurd hj (Nat.not_lt_zero _), fun u _ _ => ⟨rfl, rfl, fun i _ => rfl⟩⟩ (fun j hj => absurd hj (Nat.not_lt_zero _)) (fun j _ i => rfl) (fun j hj => absurd hj (Nat.not_lt_zero _)) (fun i j hi => absurd hi (Nat.not_lt_zero _)) (by omega)
  rw [h10, show s0 0 - (s0 0 - t) = t by omega] at e4
  obtain ⟨O3, s3, L3, vV3, se3, e5, hO3⟩ := zy_cl184 K hK hW1 hz hF1 hRo ho1 m0 m5 hA hd hO2 hQ2 (nI (s0 0)) 0 vRu vLa' vVa' se2
  refine ⟨O3, s3, L3, 0, vRo', vLa', vV3, se3, ?_, hO3⟩
  unfold hL_clears
  rw [e1, hL_clears_0, if_pos (show (0 : Int32) ≤ 0 by decide), e2', Option.bind_some, e3', Option.bind_some]
  have e4' : hL_clears_55 K (nI (s0 0)) vCol vFa vRu 7 (0 : Int32) (0 : Int32) (nI t) O1 0 vRo' vLa' vVa' se1 5 (fun _ _ => (0 : Int32)) = _ := e4
  exact e4'.trans e5
