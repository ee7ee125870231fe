/-! tables and facts as the law draws them -/
theorem zfac_1 (s : Nat → Nat) {t k t' k' : Nat} (hk : k < 512) (hk' : k' < 512) : zfacts (zup s (6 + 512 * t + k) 1) t' k' = (zfacts s t' k' || (decide (t' = t) && decide (k' = k))) := by
  unfold zfacts zup
  by_cases g : t' = t ∧ k' = k
  · rw [if_pos (by omega), decide_eq_true g.1, decide_eq_true g.2]
    simp
  · rw [if_neg (by omega)]
    by_cases g1 : t' = t
    · rw [decide_eq_false (fun g2 => g ⟨g1, g2⟩)]; simp
    · rw [decide_eq_false g1]; simp
theorem zfac_0 (s : Nat → Nat) {t k t' k' : Nat} (hk : k < 512) (hk' : k' < 512) : zfacts (zup s (6 + 512 * t + k) 0) t' k' = (zfacts s t' k' && !(decide (t' = t) && decide (k' = k))) := by
  unfold zfacts zup
  by_cases g : t' = t ∧ k' = k
  · rw [if_pos (by omega), decide_eq_true g.1, decide_eq_true g.2]
    simp
  · rw [if_neg (by omega)]
    by_cases g1 : t' = t
    · rw [decide_eq_false (fun g2 => g ⟨g1, g2⟩)]; simp
    · rw [decide_eq_false g1]; simp
/-- what stands while tables are drawn -/
def zI1 (O : zObj) (s : Nat → Nat) (L : List (Nat → Nat)) (vCol : Nat → Int32) (vFa : Nat → Nat → Int32) (B : Nat) : Prop :=
  zIc O s L ∧ zyC s vCol ∧ zyW (zfacts s) vFa ∧ (∀ i, 2566 ≤ i → i < 2780 → s i = zcs19 i) ∧ 3 ≤ s 0 ∧ s 1 = 2 ∧ s 2 = 2 ∧ s 3 = 1 ∧ ∀ t, t < 5 → zcnt (zfacts s t) 512 ≤ B
theorem zcnt_le_of {p q : Nat → Bool} {n : Nat} (h : ∀ k, k < n → p k = true → q k = true) : zcnt p n ≤ zcnt q n := by
  unfold zcnt
  apply zsum_le
  intro k hk
  cases e : p k
  · exact Nat.zero_le _
  · rw [h k hk e]; exact Nat.le_refl _
theorem zI1_add {O O' : zObj} {s : Nat → Nat} {L L' : List (Nat → Nat)} {vCol : Nat → Int32} {vFa : Nat → Nat → Int32} {B t k : Nat} (h : zI1 O s L vCol vFa B) (ht : t < 5) (hk : k < 512) (hO : zIc O' (if zfacts s t k = true then s else zup s (6 + 512 * t + k) 1) L') : zI1 O' (if zfacts s t k = true then s else zup s (6 + 512 * t + k) 1) L' vCol (zup vFa t (upd (vFa t) k ((1 : Int32) &&& 1))) (B + 1) := by
  obtain ⟨h1, h2, h3, h4, h5, h6, h7, h8, h9⟩ := h
  have hw : zyW (zadd (zfacts s) t k) (zup vFa t (upd (vFa t) k ((1 : Int32) &&& 1))) := zyW_add h3 t k
  cases ef : zfacts s t k
  · rw [ef, if_neg (by decide)] at hO
    rw [if_neg (by decide)]
    refine ⟨hO, ?_, ?_, ?_, ?_, ?_, ?_, ?_, ?_⟩
    · intro u hu
      rw [zup_ne _ _ (by omega)]; exact h2 u hu
    · intro u j hu hj
      rw [hw u j hu hj, zfac_1 s hk hj]
      rfl
    · intro i h1 h2
      rw [zup_ne _ _ (by omega)]; exact h4 i h1 h2
    · rw [zup_ne _ _ (by omega)]; exact h5
    · rw [zup_ne _ _ (by omega)]; exact h6
    · rw [zup_ne _ _ (by omega)]; exact h7
    · rw [zup_ne _ _ (by omega)]; exact h8
    · intro u hu
      by_cases g : u = t
      · rw [g, zd_cntAdd hk ef]
        have := h9 t ht; omega
      · have : zcnt (zfacts (zup s (6 + 512 * t + k) 1) u) 512 = zcnt (zfacts s u) 512 := zcnt_cong (fun j hj => by rw [zfac_1 s hk hj, decide_eq_false g]; simp)
        rw [this]
        have := h9 u hu; omega
  · rw [ef, if_pos rfl] at hO
    rw [if_pos rfl]
    refine ⟨hO, h2, ?_, h4, h5, h6, h7, h8, fun u hu => by have := h9 u hu; omega⟩
    intro u j hu hj
    rw [hw u j hu hj]
    unfold zadd
    by_cases g : u = t ∧ j = k
    · rw [g.1, g.2, ef]; rfl
    · by_cases g1 : u = t
      · rw [decide_eq_false (fun g2 => g ⟨g1, g2⟩), Bool.and_false, Bool.or_false]
      · rw [decide_eq_false g1, Bool.false_and, Bool.or_false]
theorem zy_dt329 (K : Nat) (hK : 1000000 < K) : ∀ c n, c < n → c < 1000 → ∀ {O : zObj} {s : Nat → Nat} {L : List (Nat → Nat)} {vCol : Nat → Int32} {vFa : Nat → Nat → Int32} {B : Nat} (se : Int64), zI1 O s L vCol vFa B → ∃ O' s' L' vFa' se', hL_drawsTables_329 K n (nI c) O (nI (s 0)) vCol vFa se = some (true, O', nI (s' 0), vCol, vFa', se') ∧ zI1 O' s' L' vCol vFa' B := by
  intro c
  induction c with
  | zero =>
    intro n hn _ O s L vCol vFa B se h
    obtain ⟨n, rfl⟩ : ∃ z, n = z + 1 := ⟨n - 1, by omega⟩
    refine ⟨O, s, L, vFa, se, ?_, h⟩
    rw [hL_drawsTables_329, if_pos (show nI 0 ≤ 0 by decide)]
  | succ c ih =>
    intro n hn hc O s L vCol vFa B se h
    obtain ⟨n, rfl⟩ : ∃ z, n = z + 1 := ⟨n - 1, by omega⟩
    have h0 := h
    obtain ⟨h1, h2, h3, h4, h5, h6, h7, h8, h9⟩ := h
    have hW := h1.1
    have hdec : nI (c + 1) + (-1) = nI c := zi_dec c
    obtain ⟨k, se1, e1, hk, hz⟩ := zy_drawnCode K (by omega) hW h2 (t := 0) (m := 5) (by omega) (by omega) (by omega) se
    have e1' : hL_drawnCode K vCol (0 : Int32) (5 : Int32) se = some (nI k, se1) := e1
    have i512 : inB (nI k) 512 = true := by rw [zi_inB (by omega)]; exact hk
    have c0 : (0 : Int32).toNatClampNeg = 0 := by decide
    have i0 : inB (0 : Int32) 5 = true := by decide
    have hf := h3 0 k (by omega) hk
    have st0 : ∀ (x : Option (Bool × zObj × Int32 × (Nat → Int32) × (Nat → Nat → Int32) × Int64)), (if vFa 0 k = 0 then hL_drawsTables_396 K (hL_drawsTables_329 K n) (nI (c + 1)) O (nI (s 0)) vCol vFa se1 else ((hL_valueIn K (nI k) (0 : Int32)).bind fun q373 => (hL_valueIn K (nI k) (1 : Int32)).bind fun q379 => (hX11_removeFact K O (0 : Int32) q373 q379 (0 : Int32)).bind fun q383 => (hX13_factCount K (zup vFa 0 (upd (vFa 0) k ((0 : Int32) &&& 1))) (0 : Int32)).bind fun q388 => if q383.1 = q388 then (hL_drawsTables_396 K (hL_drawsTables_329 K n) (nI (c + 1)) q383.2 (nI (s 0)) vCol (zup vFa 0 (upd (vFa 0) k ((0 : Int32) &&& 1))) se1) else (some (false, q383.2, nI (s 0), vCol, (zup vFa 0 (upd (vFa 0) k ((0 : Int32) &&& 1))), se1)))) = x → hL_drawsTables_329 K (n + 1) (nI (c + 1)) O (nI (s 0)) vCol vFa se = x := by
      intro x hx
      rw [← hx, hL_drawsTables_329, if_neg (show ¬ nI (c + 1) ≤ 0 by rw [show (0 : Int32) = nI 0 from rfl, zi_le (by omega) (by omega)]; omega), e1', Option.bind_some, if_pos i0, if_pos i512, if_pos i0, if_pos i512, c0, zi_clamp (show k < 2147483648 by omega)]
    cases ef : zfacts s 0 k
    · obtain ⟨O', s', L', vFa', se', e, hI⟩ := ih n (by omega) (by omega) se1 h0
      refine ⟨O', s', L', vFa', se', ?_, hI⟩
      apply st0
      rw [hf, ef, if_pos (show bI false = 0 from rfl)]
      unfold hL_drawsTables_396
      rw [hdec]
      exact e
    · have hw2 : s (1 + 0) = 2 := h6
      have hz2 : zcol k 2 = 0 := hz.2 (by omega)
      obtain ⟨hv, hke⟩ := zvl_of hk (by omega) hz
      obtain ⟨O', e2, hO⟩ := zd_removeFact K hK h1 (t := 0) (by omega) hv hke ef
      rw [hz2] at e2
      have e2' : hX11_removeFact K O (0 : Int32) (nI (zcol k 0)) (nI (zcol k 1)) (0 : Int32) = some (nI (zcnt (zfacts s 0) 512 - 1), O') := e2
      have hsub := zd_cntSub hk ef
      have hW' : zyW (zfacts (zup s (6 + 512 * 0 + k) 0)) (zup vFa 0 (upd (vFa 0) k ((0 : Int32) &&& 1))) := by
        intro u j hu hj
        rw [zfac_0 s hk hj, zq_at]
        by_cases g : u = 0
        · rw [if_pos g, zu_at]
          by_cases g2 : j = k
          · rw [if_pos g2, decide_eq_true g, decide_eq_true g2]
            simp
            decide
          · rw [if_neg g2, ← g, h3 u j hu hj, decide_eq_false g2]
            simp
        · rw [if_neg g, h3 u j hu hj, decide_eq_false g]
          simp
      have hc' := zy_fcount K (by omega) hW' (t := 0) (by omega)
      have hc2 : hX13_factCount K (zup vFa 0 (upd (vFa 0) k ((0 : Int32) &&& 1))) (0 : Int32) = some (nI (zcnt (zfacts s 0) 512 - 1)) := by
        have : zcnt (zfacts (zup s (6 + 512 * 0 + k) 0) 0) 512 = zcnt (zfacts s 0) 512 - 1 := by omega
        rw [← this]
        exact hc'
      have hI' : zI1 O' (zup s (6 + 512 * 0 + k) 0) (s :: L.take 9) vCol (zup vFa 0 (upd (vFa 0) k ((0 : Int32) &&& 1))) B := by
        refine ⟨hO, ?_, hW', ?_, ?_, ?_, ?_, ?_, ?_⟩
        · intro u hu
          rw [zup_ne _ _ (by omega)]; exact h2 u hu
        · intro i h1 h2
          rw [zup_ne _ _ (by omega)]; exact h4 i h1 h2
        · rw [zup_ne _ _ (by omega)]; exact h5
        · rw [zup_ne _ _ (by omega)]; exact h6
        · rw [zup_ne _ _ (by omega)]; exact h7
        · rw [zup_ne _ _ (by omega)]; exact h8
        · intro u hu
          refine Nat.le_trans (zcnt_le_of (q := zfacts s u) ?_) (h9 u hu)
          intro j hj g
          rw [zfac_0 s hk hj, Bool.and_eq_true] at g
          exact g.1
      obtain ⟨O2, s2, L2, vFa2, se2, e, hI⟩ := ih n (by omega) (by omega) se1 hI'
      refine ⟨O2, s2, L2, vFa2, se2, ?_, hI⟩
      apply st0
      have v0 : hL_valueIn K (nI k) (0 : Int32) = some (nI (zcol k 0)) := zy_valueIn K hk (j := 0) (by omega)
      have v1 : hL_valueIn K (nI k) (1 : Int32) = some (nI (zcol k 1)) := zy_valueIn K hk (j := 1) (by omega)
      rw [hf, ef, if_neg (show ¬ bI true = 0 by decide), v0, Option.bind_some, v1, Option.bind_some, e2', Option.bind_some, hc2, Option.bind_some, if_pos rfl]
      unfold hL_drawsTables_396
      rw [hdec]
      have hs0 : zup s (6 + 512 * 0 + k) 0 0 = s 0 := zup_ne _ _ (by omega)
      rw [hs0] at e
      exact e
theorem zy_dt232 (K : Nat) (hK : 1000000 < K) {m : Nat} (hm0 : 0 < m) (hm : m ≤ 8) : ∀ c n, c < n → ∀ {O : zObj} {s : Nat → Nat} {L : List (Nat → Nat)} {vCol : Nat → Int32} {vFa : Nat → Nat → Int32} {B : Nat} (se : Int64), B + c < 60 → zI1 O s L vCol vFa B → ∃ O' s' L' vFa' se', hL_drawsTables_232 K n (nI m) (nI c) O (nI (s 0)) vCol vFa se = some (true, O', nI (s' 0), vCol, vFa', se') ∧ zI1 O' s' L' vCol vFa' (B + c) := by
  intro c
  induction c with
  | zero =>
    intro n hn O s L vCol vFa B se hB h
    obtain ⟨n, rfl⟩ : ∃ z, n = z + 1 := ⟨n - 1, by omega⟩
    obtain ⟨v, se1, hv, e1⟩ := zy_next K (show 0 < 4 by omega) (by omega) se
    have e1' : hX12_next K (4 : Int32) se = some (nI v, se1) := e1
    obtain ⟨O', s', L', vFa', se', e, hI⟩ := zy_dt329 K hK v 5 (by omega) (by omega) se1 h
    refine ⟨O', s', L', vFa', se', ?_, hI⟩
    rw [hL_drawsTables_232, if_pos (show nI 0 ≤ 0 by decide), e1', Option.bind_some]
    exact e
  | succ c ih =>
    intro n hn O s L vCol vFa B se hB h
    obtain ⟨n, rfl⟩ : ∃ z, n = z + 1 := ⟨n - 1, by omega⟩
    have h0 := h
    obtain ⟨h1, h2, h3, h4, h5, h6, h7, h8, h9⟩ := h
    have hW := h1.1
    have hs5 := hW.1
    have hdec : nI (c + 1) + (-1) = nI c := zi_dec c
    obtain ⟨t, se1, ht, e1⟩ := zy_next K (show 0 < s 0 by omega) (by omega) se
    obtain ⟨k, se2, e2, hk, hz⟩ := zy_drawnCode K (by omega) hW h2 ht hm0 hm se1
    have ht5 : t < 5 := by omega
    have hcnt := h9 t ht5
    obtain ⟨O1, e3, hO⟩ := zy_addFact K hK h1 ht hk hz (by omega)
    have i512 : inB (nI k) 512 = true := by rw [zi_inB (by omega)]; exact hk
    have hI1 := zI1_add h0 ht5 hk hO
    have hf := h3 t k ht5 hk
    have hcount := zy_fcount K (by omega) hI1.2.2.1 ht5
    have hs0 : (if zfacts s t k = true then s else zup s (6 + 512 * t + k) 1) 0 = s 0 := by
      split
      · rfl
      · exact zup_ne _ _ (by omega)
    obtain ⟨O2, s2, L2, vFa2, se3, e, hI⟩ := ih n (by omega) se2 (by omega) hI1
    rw [hs0] at e
    refine ⟨O2, s2, L2, vFa2, se3, ?_, by rw [show B + (c + 1) = B + 1 + c by omega]; exact hI⟩
    rw [hL_drawsTables_232, if_neg (show ¬ nI (c + 1) ≤ 0 by rw [show (0 : Int32) = nI 0 from rfl, zi_le (by omega) (by omega)]; omega), e1, Option.bind_some, e2, Option.bind_some, if_pos (zy_i5 ht5), if_pos i512, zi_clamp (show t < 2147483648 by omega), zi_clamp (show k < 2147483648 by omega), hf]
    unfold hL_drawsTables_275
    rw [if_pos (zy_i5 ht5), if_pos i512, e3, Option.bind_some, zi_clamp (show t < 2147483648 by omega), zi_clamp (show k < 2147483648 by omega), hcount, Option.bind_some]
    unfold hL_drawsTables_311
    cases ef : zfacts s t k
    · have hz1 : zcnt (zfacts (zup s (6 + 512 * t + k) 1) t) 512 = zcnt (zfacts s t) 512 + 1 := zd_cntAdd hk ef
      rw [if_pos (show bI false = 0 from rfl), if_neg (show ¬ (1 : Int32) = 0 by decide)]
      dsimp only
      rw [if_neg (show ¬ false = true by decide), if_neg (show ¬ false = true by decide), hz1, if_pos rfl, hdec]
      exact e
    · rw [if_neg (show ¬ bI true = 0 by decide)]
      dsimp only
      rw [if_pos (zy_i5 ht5), if_pos i512, Option.bind_some, if_pos (show (0 : Int32) = 0 from rfl)]
      dsimp only
      rw [if_pos (show true = true from rfl), if_pos (show (-1 : Int32) = -1 from rfl), hdec]
      exact e
theorem zy_dt156 (K : Nat) (hK : 1000000 < K) : ∀ c n, c < n → ∀ {O : zObj} {s : Nat → Nat} {L : List (Nat → Nat)} {vCol : Nat → Int32} {vFa : Nat → Nat → Int32} (se : Int64), s 0 + c ≤ 5 → zI1 O s L vCol vFa 6 → ∃ O' s' L' vCol' vFa' se', hL_drawsTables_156 K n (nI c) O (nI (s 0)) vCol vFa se = some (true, O', nI (s' 0), vCol', vFa', se') ∧ zI1 O' s' L' vCol' vFa' 23 := by
  intro c
  induction c with
  | zero =>
    intro n hn O s L vCol vFa se hs h
    obtain ⟨n, rfl⟩ : ∃ z, n = z + 1 := ⟨n - 1, by omega⟩
    obtain ⟨v, se1, hv, e1⟩ := zy_next K (show 0 < 4 by omega) (by omega) se
    obtain ⟨w, se2, hw, e2⟩ := zy_next K (show 0 < 14 by omega) (by omega) se1
    have e1' : hX12_next K (4 : Int32) se = some (nI v, se1) := e1
    have e2' : hX12_next K (14 : Int32) se1 = some (nI w, se2) := e2
    obtain ⟨O', s', L', vFa', se', e, hI⟩ := zy_dt232 K hK (m := 3 + v) (by omega) (by omega) (4 + w) 19 (by omega) se2 (by omega) h
    refine ⟨O', s', L', vCol, vFa', se', ?_, ?_⟩
    · rw [hL_drawsTables_156, if_pos (show nI 0 ≤ 0 by decide), e1', Option.bind_some, e2', Option.bind_some, show (3 : Int32) + nI v = nI (3 + v) by rw [show (3 : Int32) = nI 3 from rfl, zi_add], show (4 : Int32) + nI w = nI (4 + w) by rw [show (4 : Int32) = nI 4 from rfl, zi_add]]
      exact e
    · obtain ⟨a1, a2, a3, a4, a5, a6, a7, a8, a9⟩ := hI
      exact ⟨a1, a2, a3, a4, a5, a6, a7, a8, fun t ht => by have := a9 t ht; omega⟩
  | succ c ih =>
    intro n hn O s L vCol vFa se hs h
    obtain ⟨n, rfl⟩ : ∃ z, n = z + 1 := ⟨n - 1, by omega⟩
    obtain ⟨h1, h2, h3, h4, h5, h6, h7, h8, h9⟩ := h
    have hdec : nI (c + 1) + (-1) = nI c := zi_dec c
    obtain ⟨v, se1, hv, e1⟩ := zy_next K (show 0 < 3 by omega) (by omega) se
    have e1' : hX12_next K (3 : Int32) se = some (nI v, se1) := e1
    obtain ⟨O1, e2, hO⟩ := zd_addTable K hK h1 (c := 1 + v) (by omega) (by omega) (by omega)
    have ea : (1 : Int32) + nI v = nI (1 + v) := by rw [show (1 : Int32) = nI 1 from rfl, zi_add]
    have hne : ∀ i, i ≠ 0 → i ≠ 1 + s 0 → zup (zup s (1 + s 0) (1 + v)) 0 (s 0 + 1) i = s i := fun i a b => by rw [zup_ne _ _ a, zup_ne _ _ b]
    have hz0 : zup (zup s (1 + s 0) (1 + v)) 0 (s 0 + 1) 0 = s 0 + 1 := zup_at _ _ _
    have hI' : zI1 O1 (zup (zup s (1 + s 0) (1 + v)) 0 (s 0 + 1)) (s :: L.take 9) (upd vCol (s 0) (nI (1 + v))) vFa 6 := by
      have hff : ∀ t k, zfacts (zup (zup s (1 + s 0) (1 + v)) 0 (s 0 + 1)) t k = zfacts s t k := by
        intro t k
        unfold zfacts
        rw [hne _ (by omega) (by omega)]
      refine ⟨hO, ?_, ?_, ?_, ?_, ?_, ?_, ?_, ?_⟩
      · intro u hu
        rw [zu_at]
        by_cases g : u = s 0
        · rw [if_pos g, g, zup_ne _ _ (by omega), zup_at]
        · rw [if_neg g, hne _ (by omega) (by omega)]; exact h2 u hu
      · intro t k ht hk
        rw [hff]; exact h3 t k ht hk
      · intro i a b
        rw [hne _ (by omega) (by omega)]; exact h4 i a b
      · omega
      · rw [hne _ (by omega) (by omega)]; exact h6
      · rw [hne _ (by omega) (by omega)]; exact h7
      · rw [hne _ (by omega) (by omega)]; exact h8
      · intro t ht
        rw [zcnt_cong (fun k _ => hff t k)]; exact h9 t ht
    obtain ⟨O2, s2, L2, vCol2, vFa2, se2, e, hI⟩ := ih n (by omega) se1 (by omega) hI'
    refine ⟨O2, s2, L2, vCol2, vFa2, se2, ?_, hI⟩
    rw [hL_drawsTables_156, if_neg (show ¬ nI (c + 1) ≤ 0 by rw [show (0 : Int32) = nI 0 from rfl, zi_le (by omega) (by omega)]; omega), e1', Option.bind_some, if_pos (zy_i5 (show s 0 < 5 by omega)), if_pos (zy_i5 (show s 0 < 5 by omega)), zi_clamp (show s 0 < 2147483648 by omega), ea, zu_same, e2, Option.bind_some, if_pos rfl, hdec, ← nI_succ]
    rw [hz0] at e
    exact e
def zf6 : Nat → Nat
  | 0 => 8
  | 1 => 16
  | 2 => 80
  | 3 => 128
  | 4 => 152
  | _ => 224
def zf0 (t k : Nat) : Bool := (decide (t = 0) && zany (fun m => decide (k = zf6 m)) 6) || (decide (t = 2) && decide (k = 192))
theorem zf0_19 : ∀ a : Fin 40, ∀ b : Fin 64, zfacts zcs19 (a.val / 8) (64 * (a.val % 8) + b.val) = zf0 (a.val / 8) (64 * (a.val % 8) + b.val) := by decide +kernel
theorem zf0_ok {s : Nat → Nat} (hs : ∀ i, i < 2780 → s i = zcs19 i) {t k : Nat} (ht : t < 5) (hk : k < 512) : zfacts s t k = zf0 t k := by
  have h := zf0_19 ⟨8 * t + k / 64, by omega⟩ ⟨k % 64, Nat.mod_lt _ (by decide)⟩
  have e1 : (8 * t + k / 64) / 8 = t := by omega
  have e2 : 64 * ((8 * t + k / 64) % 8) + k % 64 = k := by omega
  simp only [e1, e2] at h
  rw [← h]
  unfold zfacts
  rw [hs _ (by omega)]
theorem zf0_cnt : ∀ t : Fin 5, zcnt (zf0 t.val) 512 ≤ 6 := by decide +kernel
def zf2 : Nat → Nat → Int32 := z6 (upd (upd (fun _ => (0 : Int32)) (0 : Int32).toNatClampNeg (0 : Int32)) (1 : Int32).toNatClampNeg (1 : Int32)) (upd (upd (fun _ => (0 : Int32)) (0 : Int32).toNatClampNeg (0 : Int32)) (1 : Int32).toNatClampNeg (2 : Int32)) (upd (upd (fun _ => (0 : Int32)) (0 : Int32).toNatClampNeg (1 : Int32)) (1 : Int32).toNatClampNeg (2 : Int32)) (upd (upd (fun _ => (0 : Int32)) (0 : Int32).toNatClampNeg (2 : Int32)) (1 : Int32).toNatClampNeg (0 : Int32)) (upd (upd (fun _ => (0 : Int32)) (0 : Int32).toNatClampNeg (2 : Int32)) (1 : Int32).toNatClampNeg (3 : Int32)) (upd (upd (fun _ => (0 : Int32)) (0 : Int32).toNatClampNeg (3 : Int32)) (1 : Int32).toNatClampNeg (4 : Int32))
theorem zf2_ok : ∀ m : Fin 6, ((64 : Int32) * ((zf2 m.val) (0 : Int32).toNatClampNeg)) + ((8 : Int32) * ((zf2 m.val) (1 : Int32).toNatClampNeg)) = nI (zf6 m.val) ∧ zf6 m.val < 512 := by decide
theorem zy_drawsTables (K : Nat) (hK : 1000000 < K) {O : zObj} {s : Nat → Nat} (h : zIc O s []) (hs : ∀ i, i < 2780 → s i = zcs19 i) {vCol : Nat → Int32} (hC : zyC s vCol) (vFa : Nat → Nat → Int32) (hF : ∀ t k, t < 5 → k < 512 → vFa t k = 0) (se : Int64) : ∃ O' s' L' vCol' vFa' se', hL_drawsTables K O (nI 3) vCol vFa se = some (true, O', nI (s' 0), vCol', vFa', se') ∧ zI1 O' s' L' vCol' vFa' 23 := by
  have s0 : s 0 = 3 := by rw [hs 0 (by omega)]; decide
  have s1 : s 1 = 2 := by rw [hs 1 (by omega)]; decide
  have s2 : s 2 = 2 := by rw [hs 2 (by omega)]; decide
  have s3 : s 3 = 1 := by rw [hs 3 (by omega)]; decide
  have e6 : (6 : Int32) = nI 6 := rfl
  have i0 : inB (0 : Int32) 2 = true := by decide
  have i1 : inB (1 : Int32) 2 = true := by decide
  have i05 : inB (0 : Int32) 5 = true := by decide
  have c0 : (0 : Int32).toNatClampNeg = 0 := by decide
  have c2 : (2 : Int32).toNatClampNeg = 2 := by decide
  have c192 : (192 : Int32).toNatClampNeg = 192 := by decide
  obtain ⟨v1, hv1, e1⟩ := z_forD (F := fun k m (z : Nat → Nat → Int32) => hL_drawsTables_97 K k (6 : Int32) (nI m) O (nI 3) vCol z se 6 zf2) (n := 6) (inv := fun m z => ∀ t k, t < 5 → k < 512 → z t k = bI (decide (t = 0) && zany (fun i => decide (k = zf6 i)) m)) (D := fun z => (hX12_next K (3 : Int32) se).bind fun q152 => hL_drawsTables_156 K 4 q152.1 O (nI 3) vCol (zup z 2 (upd (z 2) 192 ((1 : Int32) &&& 1))) q152.2)
    (by
      intro k m z hm hinv
      obtain ⟨g1, g2⟩ := zf2_ok ⟨m, hm⟩
      have g1' : ((64 : Int32) * ((zf2 m) (0 : Int32).toNatClampNeg)) + ((8 : Int32) * ((zf2 m) (1 : Int32).toNatClampNeg)) = nI (zf6 m) := g1
      have g2' : zf6 m < 512 := g2
      refine ⟨zup z 0 (upd (z 0) (zf6 m) ((1 : Int32) &&& 1)), ?_, ?_⟩
      · have hw : zyW (fun t k => decide (t = 0) && zany (fun i => decide (k = zf6 i)) m) z := hinv
        intro t k ht hk
        rw [zyW_add hw 0 (zf6 m) t k ht hk]
        show bI ((decide (t = 0) && zany (fun i => decide (k = zf6 i)) m) || (decide (t = 0) && decide (k = zf6 m))) = bI (decide (t = 0) && (zany (fun i => decide (k = zf6 i)) m || decide (k = zf6 m)))
        rw [Bool.and_or_distrib_left]
      · rw [hL_drawsTables_97, if_neg (show ¬ (6 : Int32) ≤ nI m by rw [e6, zi_le (by omega) (by omega)]; omega), if_pos (show inB (nI m) 6 = true by rw [zi_inB (by omega)]; exact hm), if_pos i05, if_pos i0, if_pos i1, zi_clamp (show m < 2147483648 by omega), g1', if_pos (show inB (nI (zf6 m)) 512 = true by rw [zi_inB (by omega)]; exact g2'), c0, zi_clamp (show zf6 m < 2147483648 by omega), nI_succ m])
    (by
      intro k z hinv
      rw [hL_drawsTables_97, if_pos (show (6 : Int32) ≤ nI 6 by decide), if_pos (show inB (2 : Int32) 5 = true by decide), if_pos (show inB (192 : Int32) 512 = true by decide), c2, c192]) 6 K 0 vFa (by omega) (by
      intro t k ht hk
      rw [hF t k ht hk]
      show (0 : Int32) = bI (decide (t = 0) && false)
      rw [Bool.and_false]; rfl) (by omega)
  obtain ⟨c, se1, hc, ec⟩ := zy_next K (show 0 < 3 by omega) (by omega) se
  have ec' : hX12_next K (3 : Int32) se = some (nI c, se1) := ec
  have hI : zI1 O s [] vCol (zup v1 2 (upd (v1 2) 192 ((1 : Int32) &&& 1))) 6 := by
    have hw : zyW (fun t k => decide (t = 0) && zany (fun i => decide (k = zf6 i)) 6) v1 := hv1
    refine ⟨h, hC, ?_, fun i _ a => hs i a, by omega, s1, s2, s3, ?_⟩
    · intro t k ht hk
      rw [zyW_add hw 2 192 t k ht hk, zf0_ok hs ht hk]
      rfl
    · intro t ht
      rw [zcnt_cong (fun k hk => zf0_ok hs ht hk)]
      exact zf0_cnt ⟨t, ht⟩
  obtain ⟨O', s', L', vCol', vFa', se', e, hI'⟩ := zy_dt156 K hK c 4 (by omega) se1 (by omega) hI
  refine ⟨O', s', L', vCol', vFa', se', ?_, hI'⟩
  unfold hL_drawsTables
  rw [if_pos i0, if_pos i1, if_pos i0, if_pos i1, if_pos i0, if_pos i1, if_pos i0, if_pos i1, if_pos i0, if_pos i1, if_pos i0, if_pos i1]
  refine e1.trans ?_
  rw [ec', Option.bind_some]
  rw [s0] at e
  exact e
