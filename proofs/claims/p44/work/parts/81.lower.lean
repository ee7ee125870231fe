theorem zX11_lower41 (K : Nat) (fa : Nat → Int64) (hd : Nat → Int32) (bc : Nat → Nat → Int32) (bs : Nat → Int32) (tt rtt : Int32) {t v : Nat} (ht : t < 5) (hv : v < 9) (q : zR13) (w fr : Nat → Int64) (g re fi : Nat → Int32) (rt im : Int32) :
    ∀ n k, n ≤ v → n < k → (∀ r, r < 512 → zw w t r = true → r / 64 < v → r / 64 < n) → zapg (fX11_lower_41 K fa hd bc bs tt rtt (nI t) (nI v) k (nI n + (-1 : Int32))) q w fr g re fi rt im = some (if zlo (zw w t) v 512 = 0 then Sum.inl 3 else Sum.inr (nI (zlo (zw w t) v 512 - 1)), zrs q w fr g re fi rt im) := by
  intro n
  induction n with
  | zero =>
    intro k hn hk hr
    obtain ⟨k, rfl⟩ : ∃ z, k = z + 1 := ⟨k - 1, by omega⟩
    have hz : zlo (zw w t) v 512 = 0 := by
      apply Classical.byContradiction
      intro h0
      obtain ⟨j, h1, h2, h3, h4⟩ := zlo_in (zw w t) v 512 (by omega)
      have := hr j h1 h2 h3
      omega
    rw [if_pos hz]
    rfl
  | succ n ih =>
    intro k hn hk hr
    obtain ⟨k, rfl⟩ : ∃ z, k = z + 1 := ⟨k - 1, by omega⟩
    rw [zi_dec]
    show (if nI n < 0 then some (Sum.inl 3, zrs q w fr g re fi rt im) else ((fX7_word w (nI t) (nI n)).bind fun q54 => if (lg_cmp q54 (0 : Int64)) = 0 then zapg (fX11_lower_41 K fa hd bc bs tt rtt (nI t) (nI v) k (nI n + (-1 : Int32))) q w fr g re fi rt im else some (Sum.inr (nI n), zrs q w fr g re fi rt im)) : Option ((Nat ⊕ Int32) × zR20)) = _
    rw [if_neg (nI_pos (by omega)), zX7_word w ht (show n < 8 by omega), Option.bind_some]
    have hq : (lg_cmp (w (8 * t + n)) 0 = (0 : Int32)) ↔ ∀ j, j < 64 → zb (w (8 * t + n)) j = false := by rw [zl_cmpE, zb_eq0]
    have hw : ∀ j, j < 64 → zw w t (64 * n + j) = zb (w (8 * t + n)) j := by
      intro j hj
      unfold zw
      rw [show (64 * n + j) / 64 = n by omega, show (64 * n + j) % 64 = j by omega]
    by_cases h : ∀ j, j < 64 → zb (w (8 * t + n)) j = false
    · rw [if_pos (hq.2 h)]
      refine ih k (by omega) (by omega) ?_
      intro r h1 h2 h3
      have := hr r h1 h2 h3
      apply Classical.byContradiction
      intro h4
      have h5 := hw (r % 64) (by omega)
      rw [show 64 * n + r % 64 = r by omega, h2, h (r % 64) (by omega)] at h5
      cases h5
    · rw [if_neg (fun g => h (hq.1 g))]
      have h2 : ∃ j, j < 64 ∧ zb (w (8 * t + n)) j = true := by
        apply Classical.byContradiction
        intro g
        apply h
        intro j hj
        cases e : zb (w (8 * t + n)) j
        · rfl
        · exact absurd ⟨j, hj, e⟩ g
      obtain ⟨j, hj, e⟩ := h2
      have h3 := zlo_ge (zw w t) v 512 (64 * n + j) (by omega) (by rw [hw j hj]; exact e) (by omega)
      obtain ⟨i, h4, h5, h6, h7⟩ := zlo_in (zw w t) v 512 (by omega)
      have h8 := hr i h4 h5 h6
      have h9 : zlo (zw w t) v 512 = n + 1 := by omega
      rw [h9, if_neg (by omega), show n + 1 - 1 = n by omega]
theorem zlo_cong {R S : Nat → Bool} (v : Nat) : ∀ i, (∀ j, j < i → R j = S j) → zlo R v i = zlo S v i
  | 0, _ => rfl
  | i + 1, h => by rw [zlo, zlo, zlo_cong v i (fun j hj => h j (by omega)), h i (by omega)]
theorem zc_lower (K : Nat) (hK : 1000000 < K) {s : Nat → Nat} (hW : zWF s) {M : Nat → Nat} (hM : zLst (zE s) M) (hM4 : ∀ t, t < 5 → M t ≤ 4) {wd : Nat → Int32} (hwd : ∀ t, t < s 0 → wd t = nI (s (1 + t))) {fa : Nat → Int64} {hd : Nat → Int32} {bc : Nat → Nat → Int32} {bs : Nat → Int32} {rtt : Int32} (hfa : zeqR (zw fa) (zfacts s)) (hR : zRc hd bc bs rtt s) (q : zR13) (w fr : Nat → Int64) (g re fi : Nat → Int32) (rt im : Int32) (hg : im = 0 ∨ im = 1 ∧ zGn s M w g re fi rt) {now row layer value : Nat → Int32} {rounds : Int32} (hm : zM now s) (hrow : zMr row (zly s M 5).1) (hl : ∀ t, t < 5 → layer t = nI (M t)) (hro : rounds = nI (zly s M 5).2) (hval : ∃ val, zMv value val) (p p2 th : Int32) :
    ∃ e r q' w' fr' g' re' fi' rt' im', zapg (fX11_lower K fa hd bc bs (nI (s 0)) rtt p p2) q w fr g re fi rt im = some (e, zrs q' w' fr' g' re' fi' rt' im') ∧ fX12_lower K now row p p2 th = some r ∧ zAg [0, 1, 3] 0 e r ∧ zGa s M w g re fi rt im w' g' re' fi' rt' im' := by
  have h5 := hW.1
  obtain ⟨q', w', fr', g', re', fi', rt', er, hn, hw'⟩ := zRefresh K hK hW hM hM4 hfa hR q w fr g re fi rt im hg
  unfold zapg fX11_lower fX12_lower fX12_fails
  rcases zC_table hm hW.1 p with ⟨t, ht, rfl, e1, e2⟩ | ⟨e1, e2⟩
  · rw [e1, e2, Option.bind_some, Option.bind_some, if_neg (show ¬ bI true = 0 by decide), show (8 : Int32) = nI 8 from rfl]
    rcases zC_in2 p2 (m := 8) (by omega) with ⟨v, hv, rfl, e3⟩ | ⟨g3, e3⟩
    · rw [e3, Option.bind_some, if_neg (show ¬ bI true = 0 by decide), zX12_lower40 K (by omega) now hrow (show t < 5 by omega) (show v < 9 by omega)]
      have hz : zlo (zw w' t) v 512 = zlo ((zly s M 5).1 t) v 512 := zlo_cong v 512 (fun j hj => hn.1 t j (by omega) hj)
      have hcl : (if nI v < 0 then some (Sum.inl 1, zrs q w fr g re fi rt im) else if nI v ≤ nI 8 then ((zap (fX4_refresh K fa hd bc bs rtt) q w fr g re fi rt im).bind fun q34 => fX11_lower_41 K fa hd bc bs (nI (s 0)) rtt (nI t) (nI v) K (nI v - (1 : Int32)) q34.1 q34.2.1 q34.2.2.1 q34.2.2.2.1 q34.2.2.2.2.1 q34.2.2.2.2.2.1 q34.2.2.2.2.2.2.1 q34.2.2.2.2.2.2.2.1 q34.2.2.2.2.2.2.2.2.1 q34.2.2.2.2.2.2.2.2.2.1 q34.2.2.2.2.2.2.2.2.2.2.1 q34.2.2.2.2.2.2.2.2.2.2.2.1 q34.2.2.2.2.2.2.2.2.2.2.2.2.1 q34.2.2.2.2.2.2.2.2.2.2.2.2.2.1 q34.2.2.2.2.2.2.2.2.2.2.2.2.2.2.1 q34.2.2.2.2.2.2.2.2.2.2.2.2.2.2.2.1 q34.2.2.2.2.2.2.2.2.2.2.2.2.2.2.2.2.1 q34.2.2.2.2.2.2.2.2.2.2.2.2.2.2.2.2.2.1 q34.2.2.2.2.2.2.2.2.2.2.2.2.2.2.2.2.2.2.1 q34.2.2.2.2.2.2.2.2.2.2.2.2.2.2.2.2.2.2.2) else some (Sum.inl 1, zrs q w fr g re fi rt im) : Option ((Nat ⊕ Int32) × zR20)) = some (if zlo (zw w' t) v 512 = 0 then Sum.inl 3 else Sum.inr (nI (zlo (zw w' t) v 512 - 1)), zrs q' w' fr' g' re' fi' rt' 1) := by
        rw [if_neg (nI_pos (by omega)), if_pos (by rw [zi_le (by omega) (by omega)]; omega), er, Option.bind_some]
        show zapg (fX11_lower_41 K fa hd bc bs (nI (s 0)) rtt (nI t) (nI v) K (nI v - (1 : Int32))) q' w' fr' g' re' fi' rt' 1 = _
        rw [show nI v - (1 : Int32) = nI v + (-1 : Int32) from Int32.sub_eq_add_neg _ _]
        exact zX11_lower41 K fa hd bc bs (nI (s 0)) rtt (show t < 5 by omega) (show v < 9 by omega) q' w' fr' g' re' fi' rt' 1 v K (Nat.le_refl _) (by omega) (fun r _ _ h => h)
      have hif : ∀ (c : Prop) [Decidable c] (a b : Int32 × Int32), (if c then some a else some b) = some (if c then a else b) := by
        intro c _ a b
        split <;> rfl
      refine ⟨_, _, q', w', fr', g', re', fi', rt', 1, hcl, hif _ _ _, ?_, Or.inr ⟨rfl, hn, hw'⟩⟩
      rw [hz]
      by_cases h0 : zlo ((zly s M 5).1 t) v 512 = 0
      · rw [if_pos h0, if_pos h0]; exact Or.inl ⟨3, by decide, rfl, rfl⟩
      · rw [if_neg h0, if_neg h0]; exact Or.inr ⟨_, rfl, rfl⟩
    · rw [e3, Option.bind_some, if_pos (show bI false = 0 from rfl)]
      refine ⟨.inl 1, _, q, w, fr, g, re, fi, rt, im, ?_, rfl, Or.inl ⟨1, by decide, rfl, rfl⟩, Or.inl ⟨rfl, rfl, rfl, rfl, rfl, rfl⟩⟩
      show (if p2 < 0 then some (Sum.inl 1, zrs q w fr g re fi rt im) else if p2 ≤ nI 8 then _ else some (Sum.inl 1, zrs q w fr g re fi rt im) : Option ((Nat ⊕ Int32) × zR20)) = _
      rcases zC_lt p2 (show 8 + 1 < 1000000 by omega) g3 with g | ⟨g1, g2⟩
      · rw [if_pos g]
      · rw [if_neg g1]
        have : ¬ p2 ≤ nI 8 := by
          intro h
          apply g2
          rcases g3 with g3 | g3
          · exact absurd g3 g1
          · rw [Int32.lt_iff_toInt_lt, zi_toInt (by omega)]
            rw [Int32.le_iff_toInt_le, zi_toInt (by omega)] at h
            omega
        rw [if_neg this]
  · rw [e1, e2, Option.bind_some, Option.bind_some, if_pos (show bI false = 0 from rfl)]
    exact ⟨.inl 0, _, q, w, fr, g, re, fi, rt, im, rfl, rfl, Or.inl ⟨0, by decide, rfl, rfl⟩, Or.inl ⟨rfl, rfl, rfl, rfl, rfl, rfl⟩⟩
