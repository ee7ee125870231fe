/-! what the law draws -/
theorem zy_i64 (x : Int64) : ∃ n, n < 2 ^ 64 ∧ x = lN n := ⟨x.toBitVec.toNat, x.toBitVec.isLt, Int64.toBitVec_inj.mp (by show _ = BitVec.ofNat 64 _; simp)⟩
theorem zy_next (K : Nat) {m : Nat} (h0 : 0 < m) (hm : m < 1000) (se : Int64) : ∃ v se', v < m ∧ hX12_next K (nI m) se = some (nI v, se') := by
  unfold hX12_next
  obtain ⟨n, hn, hx⟩ := zy_i64 (se * (6364136223846793005 : Int64) + (1442695040888963407 : Int64))
  have e : ((lN n).toUInt64 >>> ((33 : Int32).toInt64.toUInt64 &&& Int64.toUInt64 63)).toInt64 = lN (n / 2 ^ 33) := zlN_ush hn (show 33 < 64 by decide)
  have hlt : n / 2 ^ 33 < 2 ^ 63 := by omega
  refine ⟨n / 2 ^ 33 % m, lN n, Nat.mod_lt _ h0, ?_⟩
  rw [nI_l (show m < 2 ^ 31 by omega), if_neg (show ¬ lN m = 0 by rw [show (0 : Int64) = lN 0 from rfl, pk_lEQ (by omega) (by omega)]; omega), hx, e, pk_lRem hlt h0 (by omega), lN_i]
/-- a code in a table -/
theorem zvl_of {w k : Nat} (hk : k < 512) (h1 : 1 ≤ w) (h : zin w k) : zvl 8 w (zcol k 0) (zcol k 1) (zcol k 2) ∧ k = 64 * zcol k 0 + 8 * zcol k 1 + zcol k 2 := by
  obtain ⟨h2, h3⟩ := h
  have b : ∀ j, zcol k j < 8 := fun j => Nat.mod_lt _ (by decide)
  refine ⟨⟨b 0, ?_, ?_⟩, ?_⟩
  · by_cases g : 1 < w
    · rw [if_pos g]; exact b 1
    · rw [if_neg g]; exact h2 (by omega)
  · by_cases g : 2 < w
    · rw [if_pos g]; exact b 2
    · rw [if_neg g]; exact h3 (by omega)
  · unfold zcol
    simp only [Nat.reduceSub, Nat.reducePow]
    omega
theorem zin_of {w k : Nat} (h1 : 1 ≤ w) (h3 : w ≤ 3) (h : k % 8 ^ (3 - w) = 0) : zin w k := by
  have : w = 1 ∨ w = 2 ∨ w = 3 := by omega
  unfold zin zcol
  rcases this with e | e | e <;> subst e <;> simp only [Nat.reduceSub, Nat.reducePow] at h ⊢ <;> omega
theorem zy_drawnCode (K : Nat) (hK : 10 < K) {s : Nat → Nat} (hWF : zWF s) {vCol : Nat → Int32} (hC : zyC s vCol) {t m : Nat} (ht : t < s 0) (h0 : 0 < m) (hm : m ≤ 8) (se : Int64) :
    ∃ k se', hL_drawnCode K vCol (nI t) (nI m) se = some (nI k, se') ∧ k < 512 ∧ zin (s (1 + t)) k := by
  have h5 := hWF.1
  obtain ⟨c1, c3⟩ := hWF.2.1 t ht
  have ht5 : t < 5 := by omega
  unfold hL_drawnCode
  obtain ⟨x, ⟨k, se', rfl, h1, h2⟩, e⟩ := z_for (F := fun n i (z : Nat × Int64) => hL_drawnCode_6 K vCol (nI t) (nI m) n (nI z.1) (nI i) z.2) (n := s (1 + t)) (inv := fun i z => z.1 < 512 ∧ z.1 % 8 ^ (3 - i) = 0) (post := fun x => ∃ k se', x = (nI k, se') ∧ k < 512 ∧ k % 8 ^ (3 - s (1 + t)) = 0)
    (by
      rintro n i ⟨c, se⟩ hi ⟨w1, w2⟩
      have w1' : c < 512 := w1
      have w2' : c % 8 ^ (3 - i) = 0 := w2
      left
      obtain ⟨v, se', hv, e⟩ := zy_next K h0 (show m < 1000 by omega) se
      have hv8 : v < 8 := by omega
      have e2 : nI c ||| (nI v <<< (((6 : Int32) - ((3 : Int32) * nI i)) &&& 31)) = nI (c + v * 8 ^ (2 - i)) := by
        have hs : (6 - 3 * i) % 32 = 6 - 3 * i := by omega
        rw [show (6 : Int32) = nI 6 from rfl, show (3 : Int32) = nI 3 from rfl, zi_mul, zi_sub (by omega), show (31 : Int32) = nI 31 from rfl, zi_and, zn_and31, hs, zi_shlP _ (by omega), zi_or]
        congr 1
        have : i = 0 ∨ i = 1 ∨ i = 2 := by omega
        rcases this with g | g | g <;> subst g <;> simp only [Nat.reduceMul, Nat.reduceSub, Nat.reducePow, Nat.mul_one] at w2' ⊢
        · have := zor_add (a := c / 512) (b := v * 64) (k := 9) (by omega)
          simp only [Nat.reducePow] at this
          rw [show 512 * (c / 512) = c by omega] at this
          exact this
        · have := zor_add (a := c / 64) (b := v * 8) (k := 6) (by omega)
          simp only [Nat.reducePow] at this
          rw [show 64 * (c / 64) = c by omega] at this
          exact this
        · have := zor_add (a := c / 8) (b := v) (k := 3) (by omega)
          simp only [Nat.reducePow] at this
          rw [show 8 * (c / 8) = c by omega] at this
          exact this
      refine ⟨(c + v * 8 ^ (2 - i), se'), ⟨?_, ?_⟩, ?_⟩
      · show c + v * 8 ^ (2 - i) < 512
        have : i = 0 ∨ i = 1 ∨ i = 2 := by omega
        rcases this with g | g | g <;> subst g <;> simp only [Nat.reduceSub, Nat.reducePow] at w2' ⊢ <;> omega
      · show (c + v * 8 ^ (2 - i)) % 8 ^ (3 - (i + 1)) = 0
        have : i = 0 ∨ i = 1 ∨ i = 2 := by omega
        rcases this with g | g | g <;> subst g <;> simp only [Nat.reduceSub, Nat.reduceAdd, Nat.reducePow] at w2' ⊢ <;> omega
      · show hL_drawnCode_6 K vCol (nI t) (nI m) (n + 1) (nI c) (nI i) se = _
        rw [hL_drawnCode_6, if_pos (zy_i5 ht5), zi_clamp (show t < 2147483648 by omega), hC t ht5, if_neg (by rw [zi_le (by omega) (by omega)]; omega), e, Option.bind_some, e2, nI_succ])
    (by
      rintro n ⟨c, se⟩ ⟨w1, w2⟩
      refine ⟨_, ⟨c, se, rfl, w1, w2⟩, ?_⟩
      show hL_drawnCode_6 K vCol (nI t) (nI m) (n + 1) (nI c) (nI (s (1 + t))) se = _
      rw [hL_drawnCode_6, if_pos (zy_i5 ht5), zi_clamp (show t < 2147483648 by omega), hC t ht5, if_pos (by rw [zi_le (by omega) (by omega)]; exact Nat.le_refl _)])
    (s (1 + t)) K 0 (0, se) (by omega) ⟨show 0 < 512 by decide, show 0 % 8 ^ (3 - 0) = 0 by decide⟩ (by omega)
  exact ⟨k, se', e, h1, zin_of c1 c3 h2⟩
/-- an atom that the law draws -/
theorem zy_laysAtom (K : Nat) (hK : 10 < K) {s : Nat → Nat} (hWF : zWF s) (hT : 0 < s 0) {vCol : Nat → Int32} (hC : zyC s vCol) {nG p m : Nat} (hp : p + 3 < nG) (hG : nG < 1000) (h0 : 0 < m) (hm : m ≤ 4) (se : Int64) (vG : Nat → Int32) :
    ∃ se' vG' a, hL_laysAtom K nG (nI (s 0)) vCol (nI p) (nI m) se vG = some (se', vG') ∧ zGt vCol vG' nG p a ∧ a.1 < s 0 ∧ a.2.1 = s (1 + a.1) ∧ zvl m a.2.1 a.2.2.1 a.2.2.2.1 a.2.2.2.2 ∧ ∀ j, j < p ∨ p + 4 ≤ j → vG' j = vG j := by
  have h5 := hWF.1
  obtain ⟨t, se1, ht, e1⟩ := zy_next K hT (by omega) se
  obtain ⟨c1, c3⟩ := hWF.2.1 t ht
  have ht5 : t < 5 := by omega
  have one : (1 : Int32) = nI 1 := rfl
  have step : ∀ n i se (g : Nat → Int32), i < 3 → ∃ v se', (if i < s (1 + t) then v < m else v = 0) ∧ hL_laysAtom_18 K nG (nI (s 0)) vCol (nI p) (nI m) (n + 1) (nI t) (nI i) se g = hL_laysAtom_18 K nG (nI (s 0)) vCol (nI p) (nI m) n (nI t) (nI (i + 1)) se' (upd g (p + 1 + i) (nI v)) := by
    intro n i se g hi
    have ea : nI p + (1 : Int32) + nI i = nI (p + 1 + i) := by rw [one, zi_add, zi_add]
    have ib : inB (nI (p + 1 + i)) nG = true := by rw [zi_inB (by omega)]; omega
    by_cases gi : i < s (1 + t)
    · obtain ⟨v, se', hv, e⟩ := zy_next K h0 (show m < 1000 by omega) se
      refine ⟨v, se', by rw [if_pos gi]; exact hv, ?_⟩
      rw [hL_laysAtom_18, if_neg (by rw [show (3 : Int32) = nI 3 from rfl, zi_le (by omega) (by omega)]; omega), if_pos (zy_i5 ht5), zi_clamp (show t < 2147483648 by omega), hC t ht5, if_neg (by rw [zi_le (by omega) (by omega)]; omega), e, Option.bind_some]
      unfold hL_laysAtom_53
      rw [ea, if_pos ib, zi_clamp (by omega), nI_succ]
    · refine ⟨0, se, by rw [if_neg gi], ?_⟩
      rw [hL_laysAtom_18, if_neg (by rw [show (3 : Int32) = nI 3 from rfl, zi_le (by omega) (by omega)]; omega), if_pos (zy_i5 ht5), zi_clamp (show t < 2147483648 by omega), hC t ht5, if_pos (by rw [zi_le (by omega) (by omega)]; omega)]
      unfold hL_laysAtom_53
      rw [ea, if_pos ib, zi_clamp (by omega), nI_succ]
      rfl
  obtain ⟨n, rfl⟩ : ∃ n, K = n + 1 + 1 + 1 + 1 := ⟨K - 4, by omega⟩
  obtain ⟨x, se2, hx, e2⟩ := step (n + 1 + 1 + 1) 0 se1 (upd vG p (nI t)) (by omega)
  obtain ⟨y, se3, hy, e3⟩ := step (n + 1 + 1) 1 se2 (upd (upd vG p (nI t)) (p + 1 + 0) (nI x)) (by omega)
  obtain ⟨z, se4, hz, e4⟩ := step (n + 1) 2 se3 (upd (upd (upd vG p (nI t)) (p + 1 + 0) (nI x)) (p + 1 + 1) (nI y)) (by omega)
  rw [if_pos (by omega)] at hx
  have hy' : y < m := by split at hy <;> omega
  have hz' : z < m := by split at hz <;> omega
  refine ⟨se4, upd (upd (upd (upd vG p (nI t)) (p + 1 + 0) (nI x)) (p + 1 + 1) (nI y)) (p + 1 + 2) (nI z), (t, s (1 + t), x, y, z), ?_, ?_, ht, rfl, ⟨hx, hy, hz⟩, ?_⟩
  · unfold hL_laysAtom
    rw [e1, Option.bind_some, if_pos (by rw [zi_inB (by omega)]; omega), zi_clamp (show p < 2147483648 by omega)]
    refine e2.trans (e3.trans (e4.trans ?_))
    rw [hL_laysAtom_18, if_pos (show (3 : Int32) ≤ nI (2 + 1) by decide)]
  · refine ⟨hp, hG, ⟨ht5, c1, c3, by show x < 4; omega, by show y < 4; omega, by show z < 4; omega⟩, ?_, ?_, ?_, ?_, hC t ht5⟩
    · rw [zu_ne _ _ (by omega), zu_ne _ _ (by omega), zu_ne _ _ (by omega), zu_same]
    · rw [zu_ne _ _ (by omega), zu_ne _ _ (by omega)]
      exact zu_same _ _ _
    · rw [zu_ne _ _ (by omega)]
      exact zu_same _ _ _
    · exact zu_same _ _ _
  · intro j hj
    rw [zu_ne _ _ (by omega), zu_ne _ _ (by omega), zu_ne _ _ (by omega), zu_ne _ _ (by omega)]
/-- an order that the law draws -/
theorem zy_drawnOrder (K : Nat) (hK : 10 < K) (se : Int64) : ∃ o se', zOr o ∧ hL_drawnOrder K se = some (nI o, se') := by
  have i4 : ∀ {j}, j < 4 → inB (nI j) 4 = true := fun {j} h => by rw [zi_inB (by omega)]; exact h
  have step : ∀ d k (p : Nat → Nat) (g : Nat → Int32) (se : Int64), d < 4 → d < k → (∀ j, j < 4 → g j = nI (p j) ∧ p j < 4) → (∀ i j, i < 4 → j < 4 → p i = p j → i = j) → ∃ o se', zOr o ∧ hL_drawnOrder_22 K k (nI d) se g = some (nI o, se') := by
    intro d
    induction d with
    | zero =>
      intro k p g se hd hk hg hp
      obtain ⟨k, rfl⟩ : ∃ z, k = z + 1 := ⟨k - 1, by omega⟩
      have b0 := (hg 0 (by omega)).2
      have b1 := (hg 1 (by omega)).2
      have b2 := (hg 2 (by omega)).2
      have b3 := (hg 3 (by omega)).2
      refine ⟨1000 * p 0 + 100 * p 1 + 10 * p 2 + p 3, se, ?_, ?_⟩
      · have od : ∀ j, j < 4 → zod (1000 * p 0 + 100 * p 1 + 10 * p 2 + p 3) j = p j := by
          intro j hj
          unfold zod
          have : j = 0 ∨ j = 1 ∨ j = 2 ∨ j = 3 := by omega
          rcases this with e | e | e | e <;> subst e <;> simp only [Nat.reduceSub, Nat.reducePow] <;> omega
        refine ⟨by omega, fun j hj => by rw [od j hj]; exact (hg j hj).2, ?_⟩
        intro i j hij hj
        rw [od i (by omega), od j hj]
        intro e
        have := hp i j (by omega) hj e
        omega
      · rw [hL_drawnOrder_22, if_pos (show nI 0 ≤ 0 by decide), if_pos (show inB (0 : Int32) 4 = true by decide), if_pos (show inB (1 : Int32) 4 = true by decide), if_pos (show inB (2 : Int32) 4 = true by decide), if_pos (show inB (3 : Int32) 4 = true by decide), show (0 : Int32).toNatClampNeg = 0 by decide, show (1 : Int32).toNatClampNeg = 1 by decide, show (2 : Int32).toNatClampNeg = 2 by decide, show (3 : Int32).toNatClampNeg = 3 by decide, (hg 0 (by omega)).1, (hg 1 (by omega)).1, (hg 2 (by omega)).1, (hg 3 (by omega)).1, show (1000 : Int32) = nI 1000 from rfl, show (100 : Int32) = nI 100 from rfl, show (10 : Int32) = nI 10 from rfl, zi_mul, zi_mul, zi_mul, zi_add, zi_add, zi_add]
    | succ d ih =>
      intro k p g se hd hk hg hp
      obtain ⟨k, rfl⟩ : ∃ z, k = z + 1 := ⟨k - 1, by omega⟩
      obtain ⟨v, se', hv, e⟩ := zy_next K (show 0 < d + 1 + 1 by omega) (show d + 1 + 1 < 1000 by omega) se
      obtain ⟨o, se2, ho, e2⟩ := ih k (zup (zup p (d + 1) (p v)) v (p (d + 1))) (upd (upd g (d + 1) (g v)) v (g (d + 1))) se' (by omega) (by omega)
        (by
          intro j hj
          rw [zu_at, zu_at, zq_at, zq_at]
          split
          · exact hg (d + 1) (by omega)
          · split
            · exact hg v (by omega)
            · exact hg j hj)
        (by
          intro i j hi hj
          rw [zq_at, zq_at, zq_at, zq_at]
          intro h
          by_cases c1 : i = v
          · rw [if_pos c1] at h
            by_cases c2 : j = v
            · omega
            · rw [if_neg c2] at h
              by_cases c3 : j = d + 1
              · rw [if_pos c3] at h
                have := hp _ _ (by omega) (by omega) h
                omega
              · rw [if_neg c3] at h
                have := hp _ _ (by omega) (by omega) h
                omega
          · rw [if_neg c1] at h
            by_cases c4 : i = d + 1
            · rw [if_pos c4] at h
              by_cases c2 : j = v
              · rw [if_pos c2] at h
                have := hp _ _ (by omega) (by omega) h
                omega
              · rw [if_neg c2] at h
                by_cases c3 : j = d + 1
                · omega
                · rw [if_neg c3] at h
                  have := hp _ _ (by omega) (by omega) h
                  omega
            · rw [if_neg c4] at h
              by_cases c2 : j = v
              · rw [if_pos c2] at h
                have := hp _ _ (by omega) (by omega) h
                omega
              · rw [if_neg c2] at h
                by_cases c3 : j = d + 1
                · rw [if_pos c3] at h
                  have := hp _ _ (by omega) (by omega) h
                  omega
                · rw [if_neg c3] at h
                  exact hp _ _ (by omega) (by omega) h)
      refine ⟨o, se2, ho, ?_⟩
      have hdec : nI (d + 1) + (-1) = nI d := zi_dec d
      have hinc : nI (d + 1) + (1 : Int32) = nI (d + 1 + 1) := (nI_succ (d + 1)).symm
      rw [hL_drawnOrder_22, if_neg (show ¬ nI (d + 1) ≤ 0 by rw [show (0 : Int32) = nI 0 from rfl, zi_le (by omega) (by omega)]; omega), hinc, e, Option.bind_some, if_pos (i4 (show d + 1 < 4 by omega)), if_pos (i4 (show v < 4 by omega)), if_pos (i4 (show d + 1 < 4 by omega)), if_pos (i4 (show v < 4 by omega)), zi_clamp (show d + 1 < 2147483648 by omega), zi_clamp (show v < 2147483648 by omega), hdec]
      exact e2
  unfold hL_drawnOrder
  rw [if_pos (show inB (0 : Int32) 4 = true by decide), if_pos (show inB (1 : Int32) 4 = true by decide), if_pos (show inB (2 : Int32) 4 = true by decide), if_pos (show inB (3 : Int32) 4 = true by decide)]
  refine step 3 K (fun j => j) _ se (by omega) (by omega) ?_ (fun i j _ _ h => h)
  intro j hj
  refine ⟨?_, hj⟩
  have : j = 0 ∨ j = 1 ∨ j = 2 ∨ j = 3 := by omega
  rcases this with e | e | e | e <;> subst e <;> rfl
/-! calls by code, by a row of numbers -/
theorem zy_addFact (K : Nat) (hK : 1000000 < K) {O : zObj} {s : Nat → Nat} {L : List (Nat → Nat)} (h : zIc O s L) {t k : Nat} (ht : t < s 0) (hk : k < 512) (hz : zin (s (1 + t)) k) (h60 : zcnt (zfacts s t) 512 < 60) :
    ∃ O', hL_addFact K (nI t) (nI k) O = some (if zfacts s t k = true then -1 else nI (zcnt (zfacts s t) 512 + 1), O') ∧ zIc O' (if zfacts s t k = true then s else zup s (6 + 512 * t + k) 1) (if zfacts s t k = true then L else s :: L.take 9) := by
  obtain ⟨hv, hke⟩ := zvl_of hk (h.1.2.1 t ht).1 hz
  obtain ⟨O', e, hO⟩ := zd_addFact K hK h ht hv hke h60
  refine ⟨O', ?_, hO⟩
  have v0 : hL_valueIn K (nI k) (0 : Int32) = some (nI (zcol k 0)) := zy_valueIn K hk (j := 0) (by omega)
  have v1 : hL_valueIn K (nI k) (1 : Int32) = some (nI (zcol k 1)) := zy_valueIn K hk (j := 1) (by omega)
  have v2 : hL_valueIn K (nI k) (2 : Int32) = some (nI (zcol k 2)) := zy_valueIn K hk (j := 2) (by omega)
  unfold hL_addFact
  rw [v0, Option.bind_some, v1, Option.bind_some, v2, Option.bind_some, e, Option.bind_some]
theorem zy_addRuleAtom (K : Nat) (hK : 1000000 < K) {O : zObj} {s : Nat → Nat} {L : List (Nat → Nat)} (h : zIc O s L) {vCol vG : Nat → Int32} {nG p : Nat} {a : zA} (hg : zGt vCol vG nG p a) (hp4 : p + 4 < nG) {b : Bool} (hb : vG (p + 4) = bI b) {u : Nat} (hu : u < zrn s) (hn : zbn s u < 4) (ht : a.1 < s 0) (hw : a.2.1 = s (1 + a.1)) (hv : zvl 4 a.2.1 a.2.2.1 a.2.2.2.1 a.2.2.2.2) :
    ∃ can O', (can = true ↔ ∃ S, zStb (zE (zrat s u a.1 a.2.2.1 a.2.2.2.1 a.2.2.2.2 b.toNat)) S) ∧ hL_addRuleAtom K nG vG (nI u) (nI p) O = some (if can = true then nI (zbn s u + 1) else -1, O') ∧ zIc O' (if can = true then zrat s u a.1 a.2.2.1 a.2.2.2.1 a.2.2.2.2 b.toNat else s) (if can = true then s :: L.take 9 else L) := by
  rw [hw] at hv
  obtain ⟨can, O', hc, e, hO⟩ := zd_addRuleAtom K hK h b hu hn ht hv
  refine ⟨can, O', hc, ?_, hO⟩
  obtain ⟨g1, g2, g3, g4, g5, g6, g7, g8⟩ := hg
  have one : (1 : Int32) = nI 1 := rfl
  have i : ∀ {j}, j < nG → inB (nI j) nG = true := fun {j} h => by rw [zi_inB (by omega)]; exact h
  unfold hL_addRuleAtom
  rw [if_pos (i (by omega)), show nI p + (1 : Int32) = nI (p + 1) from (nI_succ p).symm, show nI p + (2 : Int32) = nI (p + 2) by rw [show (2 : Int32) = nI 2 from rfl, zi_add], show nI p + (3 : Int32) = nI (p + 3) by rw [show (3 : Int32) = nI 3 from rfl, zi_add], show nI p + (4 : Int32) = nI (p + 4) by rw [show (4 : Int32) = nI 4 from rfl, zi_add], if_pos (i (by omega)), if_pos (i (by omega)), if_pos (i (by omega)), if_pos (i (by omega)), zi_clamp (show p < 2147483648 by omega), zi_clamp (show p + 1 < 2147483648 by omega), zi_clamp (show p + 2 < 2147483648 by omega), zi_clamp (show p + 3 < 2147483648 by omega), zi_clamp (show p + 4 < 2147483648 by omega), g4, g5, g6, g7, hb]
  unfold hL_addRuleAtom_34
  cases b
  · rw [if_neg (show ¬ bI false = 1 by decide)]
    have e' : hY11_addRuleAtom K O (nI u) (nI a.1) (nI a.2.2.1) (nI a.2.2.2.1) (nI a.2.2.2.2) (0 : Int32) = _ := e
    rw [e', Option.bind_some]
  · rw [if_pos (show bI true = 1 from rfl)]
    have e' : hY11_addRuleAtom K O (nI u) (nI a.1) (nI a.2.2.1) (nI a.2.2.2.1) (nI a.2.2.2.2) (1 : Int32) = _ := e
    rw [e', Option.bind_some]
