/-! a drawn query asked in two orders, and in the tables told backward -/
/-- a leap counts -/
theorem zIn_up {α : Type} {sub : Nat → List α × Nat} {T : Nat → Nat → Nat} {nx : Nat → Nat} {all B : Nat} (h : ∀ r, (sub r).2 ≤ B) : ∀ k t x like, (zIn sub T nx all k t x like).2 ≤ k * (B + 1) + 1
  | 0, _, _, _ => Nat.zero_le _
  | k + 1, t, x, like => by
    have e : (k + 1) * (B + 1) = k * (B + 1) + (B + 1) := Nat.succ_mul k (B + 1)
    rw [zIn]
    by_cases g1 : T (nx t) x = 8
    · rw [if_pos g1]
      show 1 ≤ _
      omega
    · rw [if_neg g1]
      by_cases g2 : (if x < T (nx t) x then 1 else like + 1) < all
      · rw [if_pos g2]
        have ih := zIn_up (sub := sub) (T := T) (nx := nx) (all := all) h k (nx t) (T (nx t) x) (if x < T (nx t) x then 1 else like + 1)
        show (zIn sub T nx all k (nx t) (T (nx t) x) (if x < T (nx t) x then 1 else like + 1)).2 + 1 ≤ _
        omega
      · rw [if_neg g2]
        have ih := zIn_up (sub := sub) (T := T) (nx := nx) (all := all) h k (nx t) (T (nx t) x + 1) 0
        have hs := h (T (nx t) x)
        show (sub (T (nx t) x)).2 + (zIn sub T nx all k (nx t) (T (nx t) x + 1) 0).2 + 1 ≤ _
        omega
theorem zS_up (R : Nat → Nat → Bool) (A : Nat → zA) (n : Nat) (pl : Nat → Nat) : ∀ m j d key, (zS R A n pl m j d key).2 ≤ 130 ^ m
  | 0, _, _, _ => Nat.zero_le _
  | m + 1, j, d, key => by
    rw [zS]
    have ih := fun r => zS_up R A n pl m (j + 1) (zup d (pl j) (8 + r)) (8 * key + r)
    have h := zIn_up (T := fun u x => zT R A d (pl j) u x) (nx := znx (fun i => zaH (A i) (pl j)) n n) (all := zcnt (fun i => zaH (A i) (pl j)) n) ih 60 (n - 1) 0 0
    refine Nat.le_trans h ?_
    have h1 : 1 ≤ 130 ^ m := Nat.one_le_pow _ _ (by decide)
    have e : 130 ^ (m + 1) = 130 ^ m * 130 := Nat.pow_succ 130 m
    rw [e]
    omega
theorem zlp_up (R : Nat → Nat → Bool) (A : Nat → zA) (n : Nat) (pl : Nat → Nat) {c : Nat} (hc : c ≤ 4) : zlp R A n pl c ≤ 285610000 := by
  unfold zlp
  split
  · exact Nat.zero_le _
  · exact Nat.le_trans (zS_up R A n pl c 0 z0 0) (Nat.le_trans (Nat.pow_le_pow_right (by decide) hc) (by decide))
theorem zdue_R {R R' : Nat → Nat → Bool} (h : zeqR R R') {A : Nat → zA} {m : Nat} (hA : ∀ j, j < m → zaOK (A j)) (V n : Nat) : zdue R A m V n = zdue R' A m V n := by
  unfold zdue
  apply zall_cong
  intro j hj
  exact h _ _ (hA j hj).1 (zaR_lt _ (fun v _ => zyv_lt V n v) (hA j hj))
theorem zdue_cnt {R R' : Nat → Nat → Bool} (h : zeqR R R') {A : Nat → zA} {m : Nat} (hA : ∀ j, j < m → zaOK (A j)) (V N : Nat) : zcnt (zdue R A m V) N = zcnt (zdue R' A m V) N := zcnt_cong (fun n _ => zdue_R h hA V n)
/-- the atoms told to the other object, the last one first -/
theorem zy_as230 (K : Nat) (hK : 1000000 < K) {s0 : Nat → Nat} (hW0 : zWF s0) (vTa : Int32) {vCol : Nat → Int32} (vRo : Nat → Nat → Int32) {m : Nat} (hm : m ≤ 4) {A : Nat → zA} {vA : Nat → Nat → Int32} (hA : ∀ j, j < m → zGt vCol (vA j) 4 0 (A j) ∧ zvA (A j)) (hAt : ∀ j, j < m → (A j).1 < s0 0 ∧ (A j).2.1 = s0 (1 + (A j).1)) (x7 : Int32) (vO : zObj) (vVa : Nat → Int32) (se : Int64) : ∀ c n, c < n → ∀ {P : zObj} {s : Nat → Nat} {L : List (Nat → Nat)} (x9 : Int32), c ≤ m → zIc P s L → zQg s0 s 3 (m - c) (fun j => A (m - 1 - j)) → ∃ P' s' L' x9', hL_asks_230 K vTa vCol vRo n (nI m) x7 x9 (nI c + (-1)) vO P vVa se m vA = hL_asks_230 K vTa vCol vRo 1 (nI m) x7 x9' (-1) vO P' vVa se m vA ∧ zIc P' s' L' ∧ zQg s0 s' 3 m (fun j => A (m - 1 - j)) := by
  intro c
  induction c with
  | zero =>
    intro n hn P s L x9 _ h hQ
    obtain ⟨n, rfl⟩ : ∃ z, n = z + 1 := ⟨n - 1, by omega⟩
    refine ⟨P, s, L, x9, ?_, h, hQ⟩
    rw [hL_asks_230, if_pos zy_neg, hL_asks_230, if_pos (show (-1 : Int32) < 0 by decide)]
  | succ c ih =>
    intro n hn P s L x9 hcm h hQ
    obtain ⟨n, rfl⟩ : ∃ z, n = z + 1 := ⟨n - 1, by omega⟩
    have hW := h.1
    obtain ⟨l0, l1, l2, l3⟩ := zQg_low hW0 hQ
    have hcm' : c < m := by omega
    obtain ⟨⟨_, _, gok, g0, g1, g2, g3, _⟩, hv⟩ := hA c hcm'
    obtain ⟨ht, hw⟩ := hAt c hcm'
    have hw5 : (A c).2.1 = s (1 + (A c).1) := by rw [l1 _ gok.1]; exact hw
    obtain ⟨P1, e1, hP1⟩ := zd_addAtom K hK h (k := 3) (t := (A c).1) (by omega) (by rw [hQ.2.1]; omega) (by rw [l0]; exact ht) (by rw [← hw5]; exact hv)
    have e1' : hX11_addAtom K P (3 : Int32) (nI (A c).1) (nI (A c).2.2.1) (nI (A c).2.2.2.1) (nI (A c).2.2.2.2) = some (nI (zqn s 3), P1) := e1
    have hQ1 := zQg_add hW (show 3 < 4 by omega) hQ (show m - (c + 1) < 5 by omega) (a := A c) (by rw [l0]; exact ht) hw5
    have hQ2 : zQg s0 (zqad s 3 (A c).1 (A c).2.2.1 (A c).2.2.2.1 (A c).2.2.2.2) 3 (m - c) (fun j => A (m - 1 - j)) := by
      obtain ⟨q1, q2, q3, q4⟩ := hQ1
      refine ⟨q1, by rw [q2]; omega, ?_, q4⟩
      intro j hj
      rw [q3 j (by omega)]
      by_cases g : j = m - (c + 1)
      · rw [g, zup_at]
        show A c = A (m - 1 - (m - (c + 1)))
        rw [show m - 1 - (m - (c + 1)) = c by omega]
      · rw [zup_ne _ _ g]
    obtain ⟨P', s', L', x9', e, k1, k2⟩ := ih n (by omega) (x9 + nI (zqn s 3)) (by omega) hP1 hQ2
    refine ⟨P', s', L', x9', ?_, k1, k2⟩
    have ik : inB (nI c) m = true := by rw [zi_inB (by omega)]; exact hcm'
    have i0 : inB (0 : Int32) 4 = true := by decide
    have i1 : inB (1 : Int32) 4 = true := by decide
    have i2 : inB (2 : Int32) 4 = true := by decide
    have i3 : inB (3 : Int32) 4 = true := by decide
    have g0' : vA c 0 = nI (A c).1 := g0
    have g1' : vA c 1 = nI (A c).2.2.1 := g1
    have g2' : vA c 2 = nI (A c).2.2.2.1 := g2
    have g3' : vA c 3 = nI (A c).2.2.2.2 := g3
    rw [hL_asks_230, if_neg (zy_nneg (by omega)), zi_dec, if_pos ik, if_pos i0, if_pos ik, if_pos i1, if_pos ik, if_pos i2, if_pos ik, if_pos i3, zi_clamp (show c < 2147483648 by omega), zy_c0, show (1 : Int32).toNatClampNeg = 1 by decide, show (2 : Int32).toNatClampNeg = 2 by decide, show (3 : Int32).toNatClampNeg = 3 by decide, g0', g1', g2', g3', e1', Option.bind_some]
    exact e
/-- what is asked at the end -/
theorem zy_as230e (K : Nat) (hK : 1000000 < K) {s0 so sp : Nat → Nat} {Lo Lp : List (Nat → Nat)} (vTa : Int32) {vCol : Nat → Int32} {vRo : Nat → Nat → Int32} {m : Nat} (hm0 : 0 < m) (hm : m ≤ 4) {A : Nat → zA} {vA : Nat → Nat → Int32} (hA : ∀ j, j < m → zGt vCol (vA j) 4 0 (A j) ∧ zvA (A j)) (hAt : ∀ j, j < m → (A j).1 < s0 0 ∧ (A j).2.1 = s0 (1 + (A j).1)) (hRo : zyW (zRw s0) vRo)
    {O P : zObj} (hO : zIc O so Lo) (hRoo : zeqR (zRw so) (zRw s0)) (hon : zqn so 2 = m) (hoa : ∀ j, j < m → zqa so 2 j = A j)
    (hW0 : zWF s0) {sp0 : Nat → Nat} (hWp0 : zWF sp0) (hp0 : sp0 0 = s0 0) (hpw : ∀ t, t < s0 0 → sp0 (1 + t) = s0 (1 + t)) (hpo : zqo sp0 3 = 123) (hRp : zeqR (zRw sp0) (zRw s0)) (hP : zIc P sp Lp) (hQ : zQg sp0 sp 3 m (fun j => A (m - 1 - j))) (x9 : Int32) {vVa : Nat → Int32} (hval : ∃ val, zMv vVa val) (se : Int64) :
    ∃ O' P' sp' Lp' vVa' se', hL_asks_230 K vTa vCol vRo 1 (nI m) (nI (zcnt (zqP (zRw so) so 2) 4096)) x9 (-1) O P vVa se m vA = some (true, O', P', vVa', se') ∧ zIc O' so Lo ∧ zIc P' sp' Lp' := by
  have hWo := hO.1
  have hWp := hP.1
  obtain ⟨o1, o2, o3⟩ := hWo.2.2.2.2.2.1 2 (by omega)
  have hAok : ∀ j, j < m → zaOK (A j) := fun j hj => (hA j hj).1.2.2.1
  have hcl := zcnt_le (zqP (zRw so) so 2) 4096
  obtain ⟨l0, l1, l2, l3⟩ := zQg_low hWp0 hQ
  -- the first atom again
  obtain ⟨⟨_, _, gok, g0, g1, g2, g3, _⟩, hv0⟩ := hA 0 hm0
  obtain ⟨ht0, hw0⟩ := hAt 0 hm0
  have hwp : (A 0).2.1 = sp (1 + (A 0).1) := by rw [l1 _ gok.1, hpw _ ht0]; exact hw0
  obtain ⟨P1, e1, hP1⟩ := zd_addAtom K hK hP (k := 3) (t := (A 0).1) (by omega) (by rw [hQ.2.1]; omega) (by rw [l0, hp0]; exact ht0) (by rw [← hwp]; exact hv0)
  have e1' : hX11_addAtom K P (3 : Int32) (nI (A 0).1) (nI (A 0).2.2.1) (nI (A 0).2.2.2.1) (nI (A 0).2.2.2.2) = some (nI (zqn sp 3), P1) := e1
  have hQ1 := zQg_add hWp (show 3 < 4 by omega) hQ (show m < 5 by omega) (a := A 0) (by rw [l0, hp0]; exact ht0) hwp
  obtain ⟨sq, hsq⟩ : ∃ x, x = zqad sp 3 (A 0).1 (A 0).2.2.1 (A 0).2.2.2.1 (A 0).2.2.2.2 := ⟨_, rfl⟩
  rw [← hsq] at hP1 hQ1
  have hWq := hP1.1
  obtain ⟨p1, p2, p3⟩ := hWq.2.2.2.2.2.1 3 (by omega)
  obtain ⟨q1, q2, q3, q4⟩ := hQ1
  have hRq : zeqR (zRw sq) (zRw s0) := by
    intro t k ht hk
    rw [zQg_rows hWp0 ⟨q1, q2, q3, q4⟩ t k ht hk, hRp t k ht hk]
  have hqa : ∀ i, i < m → zqa sq 3 i = A (m - 1 - i) := fun i hi => by rw [q3 i (by omega), zup_ne _ _ (by omega)]
  have hqm : zqa sq 3 m = A 0 := by rw [q3 m (by omega), zup_at]
  have hqo : zqo sq 3 = 123 := by
    show sq (2566 + 3) = 123
    rw [q1 _ (by omega)]; exact hpo
  have hmq : zyQm sq 3 A m := by
    refine ⟨?_, ?_⟩
    · intro i hi
      rw [q2] at hi
      by_cases g : i = m
      · exact ⟨0, hm0, by rw [g]; exact hqm⟩
      · exact ⟨m - 1 - i, by omega, hqa i (by omega)⟩
    · intro j hj
      exact ⟨m - 1 - j, by omega, by rw [hqa _ (by omega), show m - 1 - (m - 1 - j) = j by omega]⟩
  have hmo : zyQm so 2 A m := ⟨fun i hi => ⟨i, by rw [← hon]; exact hi, hoa i (by rw [← hon]; exact hi)⟩, fun j hj => ⟨j, by rw [hon]; exact hj, hoa j hj⟩⟩
  have hV : zqv sq 3 = zqv so 2 := by rw [← zyQm_V hmq p1, ← zyQm_V hmo o1]
  have hdue : zcnt (zqP (zRw sq) sq 3) 4096 = zcnt (zqP (zRw so) so 2) 4096 := by
    rw [← zy_due hmq p1 p2 (by rw [q2]; omega), ← zy_due hmo o1 o2 (by rw [hon]; exact hm0), hV]
    exact zdue_cnt (fun t k ht hk => by rw [hRq t k ht hk, hRoo t k ht hk]) hAok _ _
  have hAA := zyW_A (show m < 1000 by omega) hA
  obtain ⟨P2, vVa2, se2, hP2, hval2, e2⟩ := zy_areAll K hK (q := 3) (by omega) hqo hmq (by rw [q2]; omega) (by omega) hAA (zyW_R hRq hRo) hP1 hval se
  rw [hdue] at e2
  have e2' : hL_areAll K m vCol vRo vA (3 : Int32) (123 : Int32) (nI m) (nI (zcnt (zqP (zRw so) so 2) 4096)) P1 vVa se = some (true, P2, vVa2, se2) := e2
  obtain ⟨O1, e3, hO1⟩ := zd_bound K hK hO (k := 2) (by omega)
  obtain ⟨O2, e4, hO2⟩ := zd_cover K hK hO1 (k := 2) (by omega)
  obtain ⟨O3, e5, hO3⟩ := zd_cover K hK hO2 (k := 2) (by omega)
  obtain ⟨P3, e6, hP3⟩ := zd_bound K hK hP2 (k := 3) (by omega)
  obtain ⟨O4, b1, e7, hb1, hO4⟩ := zd_isTree K hK hO3 (k := 2) (by omega)
  obtain ⟨P4, b2, e8, hb2, hP4⟩ := zd_isTree K hK hP3 (k := 3) (by omega)
  obtain ⟨at', se3, hat, e9⟩ := zy_next K hm0 (by omega) se2
  obtain ⟨O5, e10, hO5⟩ := zd_idleRows K hK hO4 (k := 2) (i := at') (by omega) (by rw [hon]; exact hat)
  have e3' : hX11_bound K O (2 : Int32) = _ := e3
  have e4' : hX11_cover K O1 (2 : Int32) = _ := e4
  have e5' : hX11_cover K O2 (2 : Int32) = _ := e5
  have e6' : hX11_bound K P2 (3 : Int32) = _ := e6
  have e7' : hX11_isTree K O3 (2 : Int32) = _ := e7
  have e8' : hX11_isTree K P3 (3 : Int32) = _ := e8
  have e10' : hX11_idleRows K O4 (2 : Int32) (nI at') = _ := e10
  -- bounds
  have hM := zMAX_lt
  have hbo := zlP_le (zqa so 2) (fun i => zsz (zRw so) (zqa so 2 i)) (zqn so 2) (3 ^ zqn so 2)
  have hsq2 := zy_square (R := zRw so) o1 o2 (by rw [hon]; exact hm0)
  have hd31 : zcnt (zqP (zRw so) so 2) 4096 < 2 ^ 31 := Nat.lt_of_le_of_lt hcl (by decide)
  have hdd : zcnt (zqP (zRw so) so 2) 4096 * zcnt (zqP (zRw so) so 2) 4096 < 2 ^ 63 := Nat.lt_of_le_of_lt (Nat.mul_le_mul hcl hcl) (by decide)
  have c1 : ¬ 0 < lg_cmp ((nI (zcnt (zqP (zRw so) so 2) 4096)).toInt64 * (nI (zcnt (zqP (zRw so) so 2) 4096)).toInt64) (lN (zlP (zqa so 2) (fun i => zsz (zRw so) (zqa so 2 i)) (zqn so 2) (3 ^ zqn so 2))) := by
    rw [nI_l hd31, lN_mul]
    have h1 : lg_cmp (lN (zcnt (zqP (zRw so) so 2) 4096 * zcnt (zqP (zRw so) so 2) 4096)) (lN (zlP (zqa so 2) (fun i => zsz (zRw so) (zqa so 2 i)) (zqn so 2) (3 ^ zqn so 2))) ≤ 0 := by
      rw [zlg_le, pk_lLE hdd (by omega)]
      exact hsq2
    exact Int32.not_lt.mpr h1
  have hlH := zlH_le (zqa so 2) (zqn so 2) (3 ^ zqn so 2)
  have hge := zlH_ge o1.2 (show 0 < zqn so 2 by rw [hon]; exact hm0) (3 ^ zqn so 2)
  have hup := zlH_up (A := zqa so 2) (show zqn so 2 ≤ 5 by rw [hon]; omega)
  have c2 : ¬ nI (zlH (zqa so 2) (zqn so 2) (3 ^ zqn so 2)) < (2 : Int32) := by rw [show (2 : Int32) = nI 2 from rfl, zi_lt (by omega) (by omega)]; omega
  have c3 : ¬ (2 : Int32) * nI m < nI (zlH (zqa so 2) (zqn so 2) (3 ^ zqn so 2)) := by
    rw [show (2 : Int32) = nI 2 from rfl, zi_mul, zi_lt (by omega) (by omega)]
    rw [hon] at hup
    rw [hon]; omega
  have hbp := zlP_le (zqa sq 3) (fun i => zsz (zRw sq) (zqa sq 3 i)) (zqn sq 3) (3 ^ zqn sq 3)
  have hszR : ∀ a : zA, zaOK a → zsz (zRw sq) a = zsz (zRw so) a := by
    intro a ha
    unfold zsz
    apply zcnt_cong
    intro k hk
    rw [hRq _ k ha.1 hk, hRoo _ k ha.1 hk]
  have hback : zlP (zqa sq 3) (fun i => zsz (zRw sq) (zqa sq 3 i)) (m + 1) (3 ^ (m + 1)) ≤ zlP (zqa so 2) (fun i => zsz (zRw so) (zqa so 2 i)) m (3 ^ m) := by
    refine zlP_back hm0 ?_ ?_
    · intro i hi
      have e : zqa sq 3 i = zqa so 2 (m - 1 - i) := by rw [hqa i hi, hoa _ (by omega)]
      refine ⟨e, ?_⟩
      show zsz (zRw sq) (zqa sq 3 i) = zsz (zRw so) (zqa so 2 (m - 1 - i))
      rw [e, hszR _ (o1.2 _ (by rw [hon]; omega))]
    · rw [hqm, hoa 0 hm0]
  have c4 : lg_cmp (lN (zlP (zqa sq 3) (fun i => zsz (zRw sq) (zqa sq 3 i)) (zqn sq 3) (3 ^ zqn sq 3))) (lN (zlP (zqa so 2) (fun i => zsz (zRw so) (zqa so 2 i)) (zqn so 2) (3 ^ zqn so 2))) ≤ 0 := by
    rw [zlg_le, pk_lLE (by omega) (by omega), q2, hon]
    exact hback
  have htree : b1 = b2 := by
    have h1 : zTree (zqa sq 3) (m + 1) ↔ zTree (zqa so 2) m := zTree_back hm0 (fun i hi => by rw [hqa i hi, hoa _ (by omega)]) (by rw [hqm, hoa 0 hm0])
    rw [q2] at hb2
    rw [hon] at hb1
    rw [Bool.eq_iff_iff, hb1, hb2, h1]
  -- idle rows
  obtain ⟨⟨_, _, aok, ag0, _⟩, _⟩ := hA at' hat
  have aT := hoa at' hat
  have erow : hX13_rowCount K vRo (vA at' 0) = some (nI (zcnt (zRw so (A at').1) 512)) := by
    have ag0' : vA at' 0 = nI (A at').1 := ag0
    rw [ag0', zy_count K (by omega) (zyW_R hRoo hRo) aok.1]
  refine ⟨O5, P4, sq, _, vVa2, se3, ?_, hO5, hP4⟩
  have im0 : inB (0 : Int32) m = true := by
    rw [show (0 : Int32) = nI 0 from rfl, zi_inB (by omega)]; exact hm0
  have ima : inB (nI at') m = true := by rw [zi_inB (by omega)]; exact hat
  have i0 : inB (0 : Int32) 4 = true := by decide
  have i1 : inB (1 : Int32) 4 = true := by decide
  have i2 : inB (2 : Int32) 4 = true := by decide
  have i3 : inB (3 : Int32) 4 = true := by decide
  have g0' : vA 0 0 = nI (A 0).1 := g0
  have g1' : vA 0 1 = nI (A 0).2.2.1 := g1
  have g2' : vA 0 2 = nI (A 0).2.2.2.1 := g2
  have g3' : vA 0 3 = nI (A 0).2.2.2.2 := g3
  rw [hL_asks_230, if_pos (show (-1 : Int32) < 0 by decide), if_pos im0, if_pos i0, if_pos im0, if_pos i1, if_pos im0, if_pos i2, if_pos im0, if_pos i3, zy_c0, show (1 : Int32).toNatClampNeg = 1 by decide, show (2 : Int32).toNatClampNeg = 2 by decide, show (3 : Int32).toNatClampNeg = 3 by decide, g0', g1', g2', g3', e1', Option.bind_some, e2', Option.bind_some, if_neg (show ¬ bI true = 0 by decide), e3', Option.bind_some, if_neg c1, e4', Option.bind_some, if_neg c2, e5', Option.bind_some, if_neg c3, e6', Option.bind_some, if_pos c4, e7', Option.bind_some, e8', Option.bind_some, if_pos (by rw [htree]), e9, Option.bind_some, e10', Option.bind_some, if_pos ima, if_pos i0, zi_clamp (show at' < 2147483648 by omega), erow, Option.bind_some, aT]
  have hrl := zcnt_le (zRw so (A at').1) 512
  have hil := zcnt_le (fun j => zRw so (A at').1 j && !zmade (zRw so) so 2 (A at') 4096 j) 512
  by_cases gd : zcnt (zqP (zRw so) so 2) 4096 = 0
  · have hno : ∀ j, zmade (zRw so) so 2 (A at') 4096 j = false := by
      intro j
      rw [← Bool.not_eq_true]
      intro h
      unfold zmade at h
      obtain ⟨y, hy, g⟩ := zany_iff.1 h
      rw [Bool.and_eq_true] at g
      have := zcnt_mono (zqP (zRw so) so 2) (show y + 1 ≤ 4096 by omega)
      rw [zcnt_s, g.1] at this
      have e1 : (true).toNat = 1 := rfl
      omega
    have heq : zcnt (fun j => zRw so (A at').1 j && !zmade (zRw so) so 2 (A at') 4096 j) 512 = zcnt (zRw so (A at').1) 512 := zcnt_cong (fun j _ => by rw [hno j]; simp)
    rw [if_pos (by rw [gd]; rfl), heq, if_pos rfl]
  · obtain ⟨y, hy, hyP, _⟩ := zcnt_nth 4096 0 (Nat.pos_of_ne_zero gd)
    have hrow := zqP_row o1 o2 (show at' < zqn so 2 by rw [hon]; exact hat) hyP
    rw [aT] at hrow
    have hrl5 : zaR (A at') (zvy so 2 y) < 512 := zaR_lt _ (fun v _ => zvy_lt so 2 y v) aok
    have hmade : zmade (zRw so) so 2 (A at') 4096 (zaR (A at') (zvy so 2 y)) = true := by
      unfold zmade
      exact zany_iff.2 ⟨y, hy, by rw [hyP, decide_eq_true rfl]; rfl⟩
    have hlt : zcnt (fun j => zRw so (A at').1 j && !zmade (zRw so) so 2 (A at') 4096 j) 512 < zcnt (zRw so (A at').1) 512 := by
      unfold zcnt
      apply zsum_lt (i := zaR (A at') (zvy so 2 y))
      · intro j _
        have e : ∀ a b : Bool, (a && !b).toNat ≤ a.toNat := by decide
        exact e _ _
      · exact hrl5
      · show (zRw so (A at').1 (zaR (A at') (zvy so 2 y)) && !zmade (zRw so) so 2 (A at') 4096 (zaR (A at') (zvy so 2 y))).toNat < (zRw so (A at').1 (zaR (A at') (zvy so 2 y))).toNat
        rw [hmade, hrow]
        decide
    rw [if_neg (by rw [show (0 : Int32) = nI 0 from rfl, zi_eq (by omega) (by omega)]; exact gd), if_neg (by rw [zi_le (by omega) (by omega)]; omega)]
theorem zy_asks (K : Nat) (hK : 1000000 < K) {s0 : Nat → Nat} {L0 : List (Nat → Nat)} (hT : 0 < s0 0) {vCol : Nat → Int32} (hC : zyC s0 vCol) {vRo : Nat → Nat → Int32} (hRo : zyW (zRw s0) vRo) {O P : zObj} (hO : zIc O s0 L0) (hq2 : zqn s0 2 = 0) (ho2 : zqo s0 2 = 123)
    {sp0 : Nat → Nat} {Lp0 : List (Nat → Nat)} (hP : zIc P sp0 Lp0) (hp0 : sp0 0 = s0 0) (hpw : ∀ t, t < s0 0 → sp0 (1 + t) = s0 (1 + t)) (hpn : zqn sp0 3 = 0) (hpo : zqo sp0 3 = 123) (hRp : zeqR (zRw sp0) (zRw s0)) (vVa : Nat → Int32) (se : Int64) :
    ∃ O' so Lo P' sp Lp vVa' se', hL_asks K (nI (s0 0)) vCol vRo O P vVa se = some (true, O', P', vVa', se') ∧ zIc O' so Lo ∧ zIc P' sp Lp ∧ (∀ i, (i < 2566 ∨ 2654 ≤ i) → so i = s0 i) ∧ zsmQ s0 so 3 := by
  have hW0 := hO.1
  have hWp0 := hP.1
  obtain ⟨v, se1, hv, e1⟩ := zy_next K (show 0 < 4 by omega) (by omega) se
  have e1' : hX12_next K (4 : Int32) se = some (nI v, se1) := e1
  have ea : (1 : Int32) + nI v = nI (1 + v) := by rw [show (1 : Int32) = nI 1 from rfl, zi_add]
  have hm4 : 1 + v ≤ 4 := by omega
  have hm0 : 0 < 1 + v := by omega
  generalize hmv : 1 + v = m at *
  obtain ⟨O1, s1, L1, A, vA, se2, e24, hO1, hQ1, hA⟩ := zy_as24 K hK hW0 hT hC vRo hm4 P vVa m 6 (by omega) (A := fun _ => (0, 0, 0, 0, 0)) (vA := fun _ _ => (0 : Int32)) se1 (Nat.le_refl m) hO (by rw [Nat.sub_self]; exact ⟨fun i _ => rfl, hq2, fun j hj => absurd hj (Nat.not_lt_zero _), fun u _ _ => ⟨rfl, rfl, fun i _ => rfl⟩⟩) (by rw [Nat.sub_self]; exact fun j hj => absurd hj (Nat.not_lt_zero _))
  rw [Nat.sub_self] at e24
  have hW1 := hO1.1
  obtain ⟨o1, o2, o3⟩ := hW1.2.2.2.2.2.1 2 (by omega)
  obtain ⟨l0, l1, l2, l3⟩ := zQg_low hW0 hQ1
  have hR1 := zQg_rows hW0 hQ1
  have hon := hQ1.2.1
  have hoa := hQ1.2.2.1
  have hAok : ∀ j, j < m → zaOK (A j) := fun j hj => (hA j hj).1.2.2.1
  have hAt : ∀ j, j < m → (A j).1 < s0 0 ∧ (A j).2.1 = s0 (1 + (A j).1) := by
    intro j hj
    have := o3 j (by rw [hon]; exact hj)
    rw [hoa j hj, l0] at this
    refine ⟨this, ?_⟩
    have e : (zqa s1 2 j).2.1 = s1 (1 + (zqa s1 2 j).1) := rfl
    rw [hoa j hj, l1 _ (hAok j hj).1] at e
    exact e
  have hmo : zyQm s1 2 A m := ⟨fun i hi => ⟨i, by rw [← hon]; exact hi, hoa i (by rw [← hon]; exact hi)⟩, fun j hj => ⟨j, by rw [hon]; exact hj, hoa j hj⟩⟩
  have hV := zyQm_V hmo o1
  have hV16 := zqv_lt o1
  have ho1 : zqo s1 2 = 123 := by show s1 (2566 + 2) = 123; rw [hQ1.1 _ (by omega)]; exact ho2
  have hAA := zyW_A (show m < 1000 by omega) hA
  have hc4 : zpc 123 (zqv s1 2) 4 ≤ 4 := zpc_le 123 (zqv s1 2) 4
  have h8 := zp8 hc4
  have hdue := zy_due (R := zRw s1) hmo o1 o2 (by rw [hon]; exact hm0)
  have hcl := zcnt_le (zqP (zRw s1) s1 2) 4096
  rw [hV] at e24
  -- all values tried
  obtain ⟨vV1, _, e116⟩ := z_forD (F := fun k n (z : Nat → Int32) => hL_asks_116 K (nI (s0 0)) vCol vRo k (nI m) (nI (zqv s1 2)) (nI (zcnt (zdue (zRw s1) A m (zqv s1 2)) n)) (nI n) O1 P z se2 m vA) (n := 8 ^ zpc 123 (zqv s1 2) 4) (inv := fun _ _ => True) (D := fun z => hL_asks_116 K (nI (s0 0)) vCol vRo 1 (nI m) (nI (zqv s1 2)) (nI (zcnt (zqP (zRw s1) s1 2) 4096)) (nI (8 ^ zpc 123 (zqv s1 2) 4)) O1 P z se2 m vA)
    (by
      intro k n z hn _
      obtain ⟨z', ec, hz'⟩ := zy_chooses K (by omega) hV16 (show n < 100000 by omega) z
      have ef := zy_fitAll K (by omega) hAA (show m < 50 by omega) (zyW_R hR1 hRo) hz'
      refine ⟨z', trivial, ?_⟩
      show hL_asks_116 K (nI (s0 0)) vCol vRo (k + 1) (nI m) (nI (zqv s1 2)) (nI (zcnt (zdue (zRw s1) A m (zqv s1 2)) n)) (nI n) O1 P z se2 m vA = hL_asks_116 K (nI (s0 0)) vCol vRo k (nI m) (nI (zqv s1 2)) (nI (zcnt (zdue (zRw s1) A m (zqv s1 2)) n + (zdue (zRw s1) A m (zqv s1 2) n).toNat)) (nI (n + 1)) O1 P z' se2 m vA
      have ef' : hL_fitAll K m vCol vRo z' vA (nI m) = some (zdue (zRw s1) A m (zqv s1 2) n) := ef
      rw [hL_asks_116, ec, Option.bind_some, decide_eq_true hn, if_neg (show ¬ bI true = 0 by decide), ef', Option.bind_some]
      unfold hL_asks_145
      rw [nI_succ n]
      cases zdue (zRw s1) A m (zqv s1 2) n
      · rw [if_pos (show bI false = 0 from rfl), show (0 : Int32) = nI 0 from rfl, zi_add]; rfl
      · rw [if_neg (show ¬ bI true = 0 by decide), show (1 : Int32) = nI 1 from rfl, zi_add]; rfl)
    (by
      intro k z _
      obtain ⟨z', ec, hz'⟩ := zy_chooses K (by omega) hV16 (show 8 ^ zpc 123 (zqv s1 2) 4 < 100000 by omega) z
      rw [hL_asks_116, hL_asks_116, ec, Option.bind_some, Option.bind_some, decide_eq_false (Nat.lt_irrefl _), if_pos (show bI false = 0 from rfl), if_pos (show bI false = 0 from rfl), hdue]) (8 ^ zpc 123 (zqv s1 2) 4) K 0 vVa (by omega) trivial (by omega)
  have e116' : hL_asks_116 K (nI (s0 0)) vCol vRo K (nI m) (nI (zqv s1 2)) 0 0 O1 P vVa se2 m vA = hL_asks_116 K (nI (s0 0)) vCol vRo 1 (nI m) (nI (zqv s1 2)) (nI (zcnt (zqP (zRw s1) s1 2) 4096)) (nI (8 ^ zpc 123 (zqv s1 2) 4)) O1 P vV1 se2 m vA := e116
  obtain ⟨vV2, ec, hz2⟩ := zy_chooses K (by omega) hV16 (show 8 ^ zpc 123 (zqv s1 2) 4 < 100000 by omega) vV1
  obtain ⟨O2, vV3, se3, hO2, hval3, eA⟩ := zy_areAll K hK (q := 2) (by omega) ho1 hmo (by rw [hon]; exact hm0) (by omega) hAA (zyW_R hR1 hRo) hO1 ⟨_, hz2⟩ se2
  have eA' : hL_areAll K m vCol vRo vA (2 : Int32) (123 : Int32) (nI m) (nI (zcnt (zqP (zRw s1) s1 2) 4096)) O1 vV2 se2 = some (true, O2, vV3, se3) := eA
  obtain ⟨O3, RR, _, eL, hO3⟩ := zd_leaps K hK hO2 (k := 2) (by omega)
  have hlp := zlp_pos (R := RR) (A := zqa s1 2) (n := zqn s1 2) (pl := zqpl s1 2) (zqc_pos o1 o2 (by rw [hon]; exact hm0))
  have hlpu := zlp_up RR (zqa s1 2) (zqn s1 2) (zqpl s1 2) (zqc_le s1 2)
  have eL' : hX11_leaps K O2 (2 : Int32) = some (nI (zlp RR (zqa s1 2) (zqn s1 2) (zqpl s1 2) (zqc s1 2)), O3) := eL
  obtain ⟨o, se4, ho, eo⟩ := zy_drawnOrder K (by omega) se3
  obtain ⟨O4, eS, hO4⟩ := zd_setOrder K hK hO3 (k := 2) (by omega) ho
  have eS' : hX11_setOrder K O3 (2 : Int32) (nI o) = some ((123 : Int32), O4) := by
    rw [ho1] at eS
    exact eS
  have hne : ∀ i, i ≠ 2568 → zup s1 (2566 + 2) o i = s1 i := fun i g => zup_ne _ _ g
  have hon2 : zqn (zup s1 (2566 + 2) o) 2 = m := by show zup s1 (2566 + 2) o (2570 + 21 * 2) = m; rw [hne _ (by omega)]; exact hon
  have hqa2 : ∀ j, j < m → zqa (zup s1 (2566 + 2) o) 2 j = A j := by
    intro j hj
    rw [← hoa j hj]
    have hbt := (hAok j hj).1
    have hzq : s1 (zqp 2 j) < 5 := by
      have := hoa j hj
      have e : (zqa s1 2 j).1 = s1 (zqp 2 j) := rfl
      rw [← e, this]; exact hbt
    have hpj : zqp 2 j = 2570 + 21 * 2 + 1 + 4 * j := rfl
    unfold zqa zat
    rw [hne (zqp 2 j) (by omega), hne (1 + s1 (zqp 2 j)) (by omega), hne (zqp 2 j + 1) (by omega), hne (zqp 2 j + 2) (by omega), hne (zqp 2 j + 3) (by omega)]
  have hW2 := hO4.1
  obtain ⟨b1, b2, b3⟩ := hW2.2.2.2.2.2.1 2 (by omega)
  have hmo2 : zyQm (zup s1 (2566 + 2) o) 2 A m := ⟨fun i hi => ⟨i, by rw [← hon2]; exact hi, hqa2 i (by rw [← hon2]; exact hi)⟩, fun j hj => ⟨j, by rw [hon2]; exact hj, hqa2 j hj⟩⟩
  have hsm2 : zsmR s1 (zup s1 (2566 + 2) o) := zsmR_of hW1 ⟨by rw [hne 0 (by omega)]; exact Nat.le_refl _, fun t ht => hne _ (by have := hW1.1; omega)⟩ (fun i a b => hne i (by omega))
  have hR2 : zeqR (zRw (zup s1 (2566 + 2) o)) (zRw s1) := (zRw_same hW1 hsm2 (fun t k ht hk => by unfold zfacts; rw [hne _ (by omega)])).2
  have hR20 : zeqR (zRw (zup s1 (2566 + 2) o)) (zRw s0) := fun t k ht hk => by rw [hR2 t k ht hk, hR1 t k ht hk]
  have hV2 : zqv (zup s1 (2566 + 2) o) 2 = zqv s1 2 := by rw [← zyQm_V hmo2 b1, ← zyQm_V hmo o1]
  have hdue2 : zcnt (zqP (zRw (zup s1 (2566 + 2) o)) (zup s1 (2566 + 2) o) 2) 4096 = zcnt (zqP (zRw s1) s1 2) 4096 := by
    rw [← hdue, ← zy_due hmo2 b1 b2 (by rw [hon2]; exact hm0), hV2]
    exact zdue_cnt hR2 hAok _ _
  have ho2' : zqo (zup s1 (2566 + 2) o) 2 = o := zup_at _ _ _
  obtain ⟨O5, vV4, se5, hO5, hval4, eB⟩ := zy_areAll K hK (q := 2) (by omega) ho2' hmo2 (by rw [hon2]; exact hm0) (by omega) hAA (zyW_R hR20 hRo) hO4 hval3 se4
  rw [hdue2] at eB
  have eB' : hL_areAll K m vCol vRo vA (2 : Int32) (nI o) (nI m) (nI (zcnt (zqP (zRw s1) s1 2) 4096)) O4 vV3 se4 = some (true, O5, vV4, se5) := eB
  obtain ⟨P1, sp1, Lp1, x91, e230, hP1, hQp⟩ := zy_as230 K hK hWp0 (nI (s0 0)) vRo hm4 hA (fun j hj => by rw [hp0, hpw _ (hAt j hj).1]; exact hAt j hj) (nI (zcnt (zqP (zRw s1) s1 2) 4096)) O5 vV4 se5 m 6 (by omega) (s := sp0) 0 (Nat.le_refl m) hP (by rw [Nat.sub_self]; exact ⟨fun i _ => rfl, hpn, fun j hj => absurd hj (Nat.not_lt_zero _), fun u _ _ => ⟨rfl, rfl, fun i _ => rfl⟩⟩)
  obtain ⟨O6, P2, sp2, Lp2, vV5, se6, eE, hO6, hP2⟩ := zy_as230e K hK (nI (s0 0)) hm0 hm4 hA hAt hRo hO5 hR20 hon2 hqa2 hW0 hWp0 hp0 hpw hpo hRp hP1 hQp x91 hval4 se5
  rw [hdue2] at eE
  refine ⟨O6, zup s1 (2566 + 2) o, _, P2, sp2, Lp2, vV5, se6, ?_, hO6, hP2, ?_, ?_⟩
  · unfold hL_asks
    have hzm : zmany (nI m) 5 = true := by
      unfold zmany
      rw [decide_eq_false (nI_pos (by omega)), zi_clamp (show m < 2147483648 by omega), decide_eq_true (by omega)]
      rfl
    rw [e1', Option.bind_some, ea, if_pos hzm, zi_clamp (show m < 2147483648 by omega)]
    have e24' : hL_asks_24 K (nI (s0 0)) vCol vRo 6 (nI m) (0 : Int32) (0 : Int32) O P vVa se1 m (fun _ _ => (0 : Int32)) = hL_asks_116 K (nI (s0 0)) vCol vRo K (nI m) (nI (zqv s1 2)) 0 0 O1 P vVa se2 m vA := e24
    refine e24'.trans (e116'.trans ?_)
    rw [hL_asks_116, ec, Option.bind_some, decide_eq_false (Nat.lt_irrefl _), if_pos (show bI false = 0 from rfl), eA', Option.bind_some, if_neg (show ¬ bI true = 0 by decide), eL', Option.bind_some, if_pos (by rw [show (1 : Int32) = nI 1 from rfl, zi_le (by omega) (by omega)]; exact hlp), eo, Option.bind_some, eS', Option.bind_some, if_pos rfl, eB', Option.bind_some, if_neg (show ¬ bI true = 0 by decide), zy_m1]
    exact e230.trans eE
  · intro i hi
    rw [hne i (by omega)]
    exact hQ1.1 i (by omega)
  · obtain ⟨a1, a2, a3⟩ := hQ1.2.2.2 3 (by omega) (by omega)
    have hT2 : zsmT s1 (zup s1 (2566 + 2) o) := ⟨by rw [hne 0 (by omega)]; exact Nat.le_refl _, fun t ht => hne _ (by have := hW1.1; omega)⟩
    obtain ⟨c1, c2, c3⟩ := zsmQ_of hW1 hT2 (q := 3) (by omega) (fun i a b => hne i (by omega)) (hne _ (by omega))
    exact ⟨c1.trans a1, c2.trans a2, fun i hi => (c3 i (by rw [a1]; exact hi)).trans (a3 i hi)⟩
