/-! all told anew -/
theorem zy_m1 (n : Nat) : nI n - (1 : Int32) = nI n + (-1) := by
  cases n with
  | zero => decide
  | succ n =>
    rw [zi_dec, show (1 : Int32) = nI 1 from rfl, zi_sub (by omega)]
    rfl
theorem zy_neg : nI 0 + (-1) < 0 := by decide
theorem zy_nneg {n : Nat} (h : n < 1000000) : ¬ nI (n + 1) + (-1) < 0 := by
  rw [zi_dec]
  exact nI_pos (by omega)
/-- first the tables emptied -/
def zJ1 (P : zObj) (s : Nat → Nat) (L : List (Nat → Nat)) : Prop := zIc P s L ∧ zrn s = 0 ∧ s 0 = 3 ∧ s 1 = 2 ∧ s 2 = 2 ∧ s 3 = 1 ∧ (∀ i, 2566 ≤ i → i < 2654 → s i = zcs19 i) ∧ ∀ t k, 3 ≤ t → t < 5 → k < 512 → zfacts s t k = false
theorem zy_tb27 (K : Nat) (hK : 1000000 < K) (vTa vRc : Int32) (vCol : Nat → Int32) (vFa vRu : Nat → Nat → Int32) (r22 : Int32 → Int32 → zObj → Option (zObj)) {t : Nat} (ht : t < 3) : ∀ c n, c < n → c < 1000 → ∀ {P : zObj} {s : Nat → Nat} {L : List (Nat → Nat)} (x2 : Int32), zJ1 P s L → zcnt (zfacts s t) 512 = c → ∃ P' s' L' x2', hL_toldBackward_27 K vTa vRc vCol vFa vRu r22 n x2 (nI t) P = r22 x2' (nI (t + 1)) P' ∧ zJ1 P' s' L' ∧ zcnt (zfacts s' t) 512 = 0 ∧ ∀ u k, u ≠ t → k < 512 → zfacts s' u k = zfacts s u k := by
  intro c
  induction c with
  | zero =>
    intro n hn _ P s L x2 h hc
    obtain ⟨n, rfl⟩ : ∃ z, n = z + 1 := ⟨n - 1, by omega⟩
    have e1 := zd_factCount K hK h.1 (t := t) (by have := h.2.2.1; omega)
    refine ⟨P, s, L, x2, ?_, h, hc, fun u k _ _ => rfl⟩
    rw [hL_toldBackward_27, e1, Option.bind_some, hc, if_pos (show nI 0 ≤ 0 by decide), nI_succ]
  | succ c ih =>
    intro n hn hc1 P s L x2 h hc
    obtain ⟨n, rfl⟩ : ∃ z, n = z + 1 := ⟨n - 1, by omega⟩
    obtain ⟨h1, h2, h3, h4, h5, h6, h7, h8⟩ := h
    have hW := h1.1
    have ht0 : t < s 0 := by omega
    have hw1 := (hW.2.1 t ht0).1
    have hRw := zRw_none h2
    have e1 := zd_factCount K hK h1 ht0
    obtain ⟨P1, r, hr, hrr, hrc, e2, hP1⟩ := zd_rowAt K hK h1 ht0 (n := 0) (c := 0) (by omega) (by rw [hRw, hc]; omega)
    rw [hRw] at hrr hrc
    have hin := (hW.2.2.2.1 t r (by omega) hr hrr).2
    obtain ⟨hv, hke⟩ := zvl_of hr hw1 hin
    have e2' : hX11_rowAt K P (nI t) (0 : Int32) (0 : Int32) = some (nI (zcol r 0), P1) := e2
    have hsub := zd_cntSub (s := s) (t := t) hr hrr
    have hne : ∀ i, i ≠ 6 + 512 * t + r → zup s (6 + 512 * t + r) 0 i = s i := fun i g => zup_ne _ _ g
    have hnext : ∀ {P3 : zObj} {L3 : List (Nat → Nat)}, zIc P3 (zup s (6 + 512 * t + r) 0) L3 → zJ1 P3 (zup s (6 + 512 * t + r) 0) L3 ∧ zcnt (zfacts (zup s (6 + 512 * t + r) 0) t) 512 = c := by
      intro P3 L3 hP3
      refine ⟨⟨hP3, ?_, ?_, ?_, ?_, ?_, ?_, ?_⟩, by omega⟩
      · show zup s (6 + 512 * t + r) 0 2654 = 0
        rw [hne _ (by omega)]; exact h2
      · rw [hne _ (by omega)]; exact h3
      · rw [hne _ (by omega)]; exact h4
      · rw [hne _ (by omega)]; exact h5
      · rw [hne _ (by omega)]; exact h6
      · intro i a b
        rw [hne _ (by omega)]; exact h7 i a b
      · intro u k a b hk
        rw [zfac_0 s hr hk, h8 u k a b hk]; rfl
    have nle : ¬ nI (c + 1) ≤ 0 := by rw [show (0 : Int32) = nI 0 from rfl, zi_le (by omega) (by omega)]; omega
    by_cases g2 : 2 ≤ t
    · have hz1 : zcol r 1 = 0 := by
        have : s (1 + t) = 1 := by rw [show t = 2 by omega]; exact h6
        exact hin.1 (by omega)
      have hz2 : zcol r 2 = 0 := by
        have : s (1 + t) = 1 := by rw [show t = 2 by omega]; exact h6
        exact hin.2 (by omega)
      obtain ⟨P3, e3, hP3⟩ := zd_removeFact K hK hP1 ht0 hv hke hrr
      rw [hz1, hz2] at e3
      have e3' : hX11_removeFact K P1 (nI t) (nI (zcol r 0)) (0 : Int32) (0 : Int32) = some (nI (zcnt (zfacts s t) 512 - 1), P3) := e3
      obtain ⟨k1, k2⟩ := hnext hP3
      obtain ⟨P', s', L', x2', e, a1, a2, a3⟩ := ih n (by omega) (by omega) (x2 + nI (zcnt (zfacts s t) 512 - 1)) k1 k2
      refine ⟨P', s', L', x2', ?_, a1, a2, ?_⟩
      · rw [hL_toldBackward_27, e1, Option.bind_some, hc, if_neg nle, e2', Option.bind_some, if_pos (show (2 : Int32) ≤ nI t by rw [show (2 : Int32) = nI 2 from rfl, zi_le (by omega) (by omega)]; exact g2)]
        unfold hL_toldBackward_61
        rw [e3', Option.bind_some]
        exact e
      · intro u k hu hk
        rw [a3 u k hu hk, zfac_0 s hr hk, decide_eq_false hu]; simp
    · have hw2 : s (1 + t) = 2 := by
        have : t = 0 ∨ t = 1 := by omega
        rcases this with g | g <;> subst g
        · exact h4
        · exact h5
      have hz2 : zcol r 2 = 0 := hin.2 (by omega)
      obtain ⟨P2, r2, hr2, hrr2, hrc2, e4, hP2⟩ := zd_rowAt K hK hP1 ht0 (n := 0) (c := 1) (by omega) (by rw [hRw, hc]; omega)
      rw [hRw] at hrr2 hrc2
      have hrr' : r2 = r := zrow_uniq hrr2 hrr (by rw [hrc2, hrc])
      subst hrr'
      have e4' : hX11_rowAt K P1 (nI t) (0 : Int32) (1 : Int32) = some (nI (zcol r2 1), P2) := e4
      obtain ⟨P3, e3, hP3⟩ := zd_removeFact K hK hP2 ht0 hv hke hrr
      rw [hz2] at e3
      have e3' : hX11_removeFact K P2 (nI t) (nI (zcol r2 0)) (nI (zcol r2 1)) (0 : Int32) = some (nI (zcnt (zfacts s t) 512 - 1), P3) := e3
      obtain ⟨k1, k2⟩ := hnext hP3
      obtain ⟨P', s', L', x2', e, a1, a2, a3⟩ := ih n (by omega) (by omega) (x2 + nI (zcnt (zfacts s t) 512 - 1)) k1 k2
      refine ⟨P', s', L', x2', ?_, a1, a2, ?_⟩
      · rw [hL_toldBackward_27, e1, Option.bind_some, hc, if_neg nle, e2', Option.bind_some, if_neg (show ¬ (2 : Int32) ≤ nI t by rw [show (2 : Int32) = nI 2 from rfl, zi_le (by omega) (by omega)]; exact g2), e4', Option.bind_some]
        unfold hL_toldBackward_61
        rw [e3', Option.bind_some]
        exact e
      · intro u k hu hk
        rw [a3 u k hu hk, zfac_0 s hr2 hk, decide_eq_false hu]; simp
/-- then the tables told -/
def zJ2 (s0 : Nat → Nat) (P : zObj) (s : Nat → Nat) (L : List (Nat → Nat)) : Prop := zIc P s L ∧ (∀ t, t < s 0 → s (1 + t) = s0 (1 + t)) ∧ (∀ i, 2566 ≤ i → i < 2654 → s i = zcs19 i) ∧ ∀ t k, t < 5 → k < 512 → zfacts s t k = false
theorem zy_tb78 (K : Nat) (hK : 1000000 < K) {s0 : Nat → Nat} (hW0 : zWF s0) (vRc : Int32) {vCol : Nat → Int32} (hC : zyC s0 vCol) (vFa vRu : Nat → Nat → Int32) : ∀ c n, c < n → ∀ {P : zObj} {s : Nat → Nat} {L : List (Nat → Nat)} (x2 : Int32), zJ2 s0 P s L → zrn s = 0 → s 0 + c = s0 0 → ∃ P' s' L' x2', hL_toldBackward_78 K (nI (s0 0)) vRc vCol vFa vRu n x2 (nI (s 0)) P = hL_toldBackward_112 K (nI (s0 0)) vRc vCol vFa vRu 7 x2' (vRc - (1 : Int32)) P' ∧ zJ2 s0 P' s' L' ∧ zrn s' = 0 ∧ s' 0 = s0 0 := by
  have h05 := hW0.1
  intro c
  induction c with
  | zero =>
    intro n hn P s L x2 h hz hs
    obtain ⟨n, rfl⟩ : ∃ z, n = z + 1 := ⟨n - 1, by omega⟩
    refine ⟨P, s, L, x2, ?_, h, hz, by omega⟩
    rw [hL_toldBackward_78, if_pos (by rw [zi_le (by omega) (by omega)]; omega)]
  | succ c ih =>
    intro n hn P s L x2 h hz hs
    obtain ⟨n, rfl⟩ : ∃ z, n = z + 1 := ⟨n - 1, by omega⟩
    obtain ⟨h1, h2, h3, h4⟩ := h
    obtain ⟨c1, c3⟩ := hW0.2.1 (s 0) (by omega)
    obtain ⟨P1, e1, hP1⟩ := zd_addTable K hK h1 (c := s0 (1 + s 0)) c1 c3 (by omega)
    have hne : ∀ i, i ≠ 0 → i ≠ 1 + s 0 → zup (zup s (1 + s 0) (s0 (1 + s 0))) 0 (s 0 + 1) i = s i := fun i a b => by rw [zup_ne _ _ a, zup_ne _ _ b]
    have hz0 : zup (zup s (1 + s 0) (s0 (1 + s 0))) 0 (s 0 + 1) 0 = s 0 + 1 := zup_at _ _ _
    have hJ : zJ2 s0 P1 (zup (zup s (1 + s 0) (s0 (1 + s 0))) 0 (s 0 + 1)) (s :: L.take 9) := by
      refine ⟨hP1, ?_, ?_, ?_⟩
      · intro t ht
        rw [hz0] at ht
        by_cases g : t = s 0
        · rw [g, zup_ne _ _ (by omega), zup_at]
        · rw [hne _ (by omega) (by omega)]; exact h2 t (by omega)
      · intro i a b
        rw [hne _ (by omega) (by omega)]; exact h3 i a b
      · intro t k ht hk
        have := h4 t k ht hk
        unfold zfacts at this ⊢
        rw [hne _ (by omega) (by omega)]; exact this
    obtain ⟨P', s', L', x2', e, a1, a2, a3⟩ := ih n (by omega) (x2 + nI (s 0)) hJ (by show zup _ 0 _ 2654 = 0; rw [hne _ (by omega) (by omega)]; exact hz) (by rw [hz0]; omega)
    refine ⟨P', s', L', x2', ?_, a1, a2, a3⟩
    rw [hL_toldBackward_78, if_neg (by rw [zi_le (by omega) (by omega)]; omega), if_pos (zy_i5 (show s 0 < 5 by omega)), zi_clamp (show s 0 < 2147483648 by omega), hC _ (show s 0 < 5 by omega), e1, Option.bind_some, ← nI_succ]
    rw [hz0] at e
    exact e
/-- a rule with its atoms the last one first -/
def zRr (s0 s : Nat → Nat) (r r' m : Nat) : Prop := zrh s r = zrh s0 r' ∧ zbn s r = m ∧ ∀ i, i < m → zba s r i = zba s0 r' (zbn s0 r' - 1 - i) ∧ zbN s r i = zbN s0 r' (zbn s0 r' - 1 - i)
def zJ3 (s0 : Nat → Nat) (P : zObj) (s : Nat → Nat) (L : List (Nat → Nat)) (j : Nat) : Prop := zJ2 s0 P s L ∧ s 0 = s0 0 ∧ ∀ r, r < j → zRr s0 s r (zrn s0 - 1 - r) (zbn s0 (zrn s0 - 1 - r))
theorem zy_tb154 (K : Nat) (hK : 1000000 < K) {s0 : Nat → Nat} (hW0 : zWF s0) (hV0 : zVr s0) (vTa vRc : Int32) {vCol : Nat → Int32} (hC : zyC s0 vCol) (vFa : Nat → Nat → Int32) {vRu : Nat → Nat → Int32} (hR : zyR s0 vRu) (r112 : Int32 → Int32 → zObj → Option (zObj)) (x3 : Int32) {j : Nat} (hj : j < zrn s0) : ∀ c n, c < n → c ≤ zbn s0 (zrn s0 - 1 - j) → ∀ {P : zObj} {s : Nat → Nat} {L : List (Nat → Nat)} (x2 : Int32), zJ3 s0 P s L j → zrn s = j + 1 → zRr s0 s j (zrn s0 - 1 - j) (zbn s0 (zrn s0 - 1 - j) - c) → ∃ P' s' L' x2', hL_toldBackward_154 K vTa vRc vCol vFa vRu r112 n x2 x3 (zrn s0 - 1 - j) (nI j) (nI c + (-1)) P = r112 x2' (x3 + (-1)) P' ∧ zJ3 s0 P' s' L' (j + 1) ∧ zrn s' = j + 1 := by
  have hs0 := hW0.2.2.2.2.2.2.1
  have hn5 := hs0.1
  have hr' : zrn s0 - 1 - j < zrn s0 := by omega
  obtain ⟨a1, a2, a3⟩ := hs0.2 _ hr'
  intro c
  induction c with
  | zero =>
    intro n hn hc P s L x2 h hz hr
    obtain ⟨n, rfl⟩ : ∃ z, n = z + 1 := ⟨n - 1, by omega⟩
    refine ⟨P, s, L, x2, ?_, ⟨h.1, h.2.1, ?_⟩, hz⟩
    · rw [hL_toldBackward_154, if_pos zy_neg]
    · intro r hrj
      by_cases g : r = j
      · rw [g]; exact hr
      · exact h.2.2 r (by omega)
  | succ c ih =>
    intro n hn hc P s L x2 h hz hr
    obtain ⟨n, rfl⟩ : ∃ z, n = z + 1 := ⟨n - 1, by omega⟩
    obtain ⟨⟨h1, h2, h3, h4⟩, h5, h6⟩ := h
    obtain ⟨q1, q2, q3⟩ := hr
    have hW := h1.1
    have hcb : c < zbn s0 (zrn s0 - 1 - j) := by omega
    have hA := zyR_atom hC hs0 hR hr' hcb
    have hN := zyR_not hs0 hR hr' hcb
    have hwr := (hW0.2.2.2.2.2.2.2.1 _ hr').2 c hcb
    have hw : (zba s0 (zrn s0 - 1 - j) c).2.1 = s (1 + (zba s0 (zrn s0 - 1 - j) c).1) := by
      rw [h2 _ (by rw [h5]; exact hwr)]
      rfl
    obtain ⟨can, P1, hcan, e1, hP1⟩ := zy_addRuleAtom K hK h1 hA (by omega) (b := zbN s0 (zrn s0 - 1 - j) c) (by rw [show 5 + 5 * c + 4 = 9 + 5 * c by omega]; exact hN) (u := j) (by omega) (by rw [q2]; omega) (by rw [h5]; exact hwr) hw ((hV0 _ hr').2 c hcb)
    have hb01 : (decide ((zbN s0 (zrn s0 - 1 - j) c).toNat = 1)).toNat = (zbN s0 (zrn s0 - 1 - j) c).toNat := by cases zbN s0 (zrn s0 - 1 - j) c <;> rfl
    have hlt4 : zbn s j < 4 := by rw [q2]; omega
    have ht : (zba s0 (zrn s0 - 1 - j) c).1 < s 0 := by rw [h5]; exact hwr
    have hyes : can = true := by
      refine hcan.2 ⟨zMs s0, ?_⟩
      have hst := (zMs_ok hW0).1.1
      intro a u w he
      rw [zrat_E hW (show j < zrn s by omega) hlt4 ht] at he
      apply hst
      rcases he with ⟨r, i, g1, g2, g3, g4, g5⟩ | ⟨g1, g2, g3⟩
      · by_cases gr : r = j
        · subst gr
          rw [q2] at g2
          obtain ⟨e1, e2⟩ := q3 i g2
          exact ⟨zrn s0 - 1 - r, zbn s0 (zrn s0 - 1 - r) - 1 - i, hr', by omega, by rw [g3, q1], by rw [g4, e1], by rw [g5, e2]⟩
        · obtain ⟨p1, p2, p3⟩ := h6 r (by omega)
          rw [p2] at g2
          obtain ⟨e1, e2⟩ := p3 i g2
          exact ⟨zrn s0 - 1 - r, zbn s0 (zrn s0 - 1 - r) - 1 - i, by omega, by omega, by rw [g3, p1], by rw [g4, e1], by rw [g5, e2]⟩
      · exact ⟨zrn s0 - 1 - j, c, hr', hcb, by rw [g1, q1], g2, by rw [g3, hb01]⟩
    subst hyes
    rw [if_pos rfl] at e1
    rw [if_pos rfl, if_pos rfl] at hP1
    obtain ⟨f1, f2, f3, f4, f5, f6, f7⟩ := zrat_facts (x := (zba s0 (zrn s0 - 1 - j) c).2.2.1) (y := (zba s0 (zrn s0 - 1 - j) c).2.2.2.1) (z := (zba s0 (zrn s0 - 1 - j) c).2.2.2.2) (v := (zbN s0 (zrn s0 - 1 - j) c).toNat) hW (show j < zrn s by omega) hlt4 ht
    have hold : ∀ r i, zbN s r i = decide (s (zbp r i + 4) = 1) := fun _ _ => rfl
    have hJ : zJ3 s0 P1 (zrat s j (zba s0 (zrn s0 - 1 - j) c).1 (zba s0 (zrn s0 - 1 - j) c).2.2.1 (zba s0 (zrn s0 - 1 - j) c).2.2.2.1 (zba s0 (zrn s0 - 1 - j) c).2.2.2.2 (zbN s0 (zrn s0 - 1 - j) c).toNat) (s :: L.take 9) j := by
      refine ⟨⟨hP1, ?_, ?_, ?_⟩, by rw [f1 0 (by omega)]; exact h5, ?_⟩
      · intro t ht
        rw [f1 0 (by omega)] at ht
        have h05 := hW.1
        rw [f1 _ (by omega)]; exact h2 t ht
      · intro i a b
        rw [f1 _ (by omega)]; exact h3 i a b
      · intro t k ht hk
        have := h4 t k ht hk
        unfold zfacts at this ⊢
        rw [f1 _ (by omega)]; exact this
      · intro r hrj
        obtain ⟨p1, p2, p3⟩ := h6 r hrj
        obtain ⟨g1, g2, g3⟩ := f7 r (by omega) (by omega)
        refine ⟨g1.trans p1, g2.trans p2, ?_⟩
        intro i hi
        obtain ⟨w1, w2⟩ := p3 i hi
        obtain ⟨v1, v2⟩ := g3 i (by rw [p2]; exact hi)
        exact ⟨v1.trans w1, (zbN_same v2).trans w2⟩
    have hRr : zRr s0 (zrat s j (zba s0 (zrn s0 - 1 - j) c).1 (zba s0 (zrn s0 - 1 - j) c).2.2.1 (zba s0 (zrn s0 - 1 - j) c).2.2.2.1 (zba s0 (zrn s0 - 1 - j) c).2.2.2.2 (zbN s0 (zrn s0 - 1 - j) c).toNat) j (zrn s0 - 1 - j) (zbn s0 (zrn s0 - 1 - j) - c) := by
      refine ⟨f3.trans q1, by rw [f2, q2]; omega, ?_⟩
      intro i hi
      by_cases g : i = zbn s j
      · have hic : zbn s0 (zrn s0 - 1 - j) - 1 - i = c := by omega
        rw [hic]
        refine ⟨?_, ?_⟩
        · rw [g, f5, ← hw]
        · rw [g]
          show decide (_ = 1) = _
          rw [f6]
          cases zbN s0 (zrn s0 - 1 - j) c <;> rfl
      · have hi2 : i < zbn s j := by omega
        obtain ⟨v1, v2⟩ := f4 i hi2
        obtain ⟨w1, w2⟩ := q3 i (by omega)
        exact ⟨v1.trans w1, (zbN_same v2).trans w2⟩
    obtain ⟨P', s', L', x2', e, b1, b2⟩ := ih n (by omega) (by omega) (x2 + nI (zbn s j + 1)) hJ (by show zrat s j _ _ _ _ _ 2654 = _; rw [f1 _ (by omega)]; exact hz) hRr
    refine ⟨P', s', L', x2', ?_, b1, b2⟩
    have e5c : (5 : Int32) + ((5 : Int32) * nI c) = nI (5 + 5 * c) := by rw [show (5 : Int32) = nI 5 from rfl, zi_mul, zi_add]
    rw [hL_toldBackward_154, if_neg (zy_nneg (by omega)), if_pos (show zrn s0 - 1 - j < 5 by omega), zi_dec, e5c, e1, Option.bind_some]
    exact e
theorem zy_tb112 (K : Nat) (hK : 1000000 < K) {s0 : Nat → Nat} (hW0 : zWF s0) (hV0 : zVr s0) {vCol : Nat → Int32} (hC : zyC s0 vCol) (vFa : Nat → Nat → Int32) {vRu : Nat → Nat → Int32} (hR : zyR s0 vRu) : ∀ c n, c < n → c ≤ zrn s0 → ∀ {P : zObj} {s : Nat → Nat} {L : List (Nat → Nat)} (x2 : Int32), zJ3 s0 P s L (zrn s0 - c) → zrn s = zrn s0 - c → ∃ P' s' L' x2', hL_toldBackward_112 K (nI (s0 0)) (nI (zrn s0)) vCol vFa vRu n x2 (nI c + (-1)) P = hL_toldBackward_195 K (nI (s0 0)) (nI (zrn s0)) vCol vFa vRu 7 x2' (nI (s0 0) - (1 : Int32)) P' ∧ zJ3 s0 P' s' L' (zrn s0) ∧ zrn s' = zrn s0 := by
  have hs0 := hW0.2.2.2.2.2.2.1
  have hn5 := hs0.1
  intro c
  induction c with
  | zero =>
    intro n hn hc P s L x2 h hz
    obtain ⟨n, rfl⟩ : ∃ z, n = z + 1 := ⟨n - 1, by omega⟩
    refine ⟨P, s, L, x2, ?_, h, hz⟩
    rw [hL_toldBackward_112, if_pos zy_neg]
  | succ c ih =>
    intro n hn hc P s L x2 h hz
    obtain ⟨n, rfl⟩ : ∃ z, n = z + 1 := ⟨n - 1, by omega⟩
    obtain ⟨⟨h1, h2, h3, h4⟩, h5, h6⟩ := h
    have hW := h1.1
    have hcr : c < zrn s0 := by omega
    have hc5 : c < 5 := by omega
    obtain ⟨a1, a2, a3⟩ := hs0.2 c hcr
    obtain ⟨_, _, _, g0, g1, g2, g3, _⟩ := zyR_head hC hs0 hR hcr
    have hwr := (hW0.2.2.2.2.2.2.2.1 c hcr).1
    have hw : (zrh s0 c).2.1 = s (1 + (zrh s0 c).1) := by
      rw [h2 _ (by rw [h5]; exact hwr)]
      rfl
    have hv := (hV0 c hcr).1
    obtain ⟨P1, e1, hP1⟩ := zd_addRule K hK h1 (t := (zrh s0 c).1) (by omega) (by rw [h5]; exact hwr) (by rw [← hw]; exact hv)
    obtain ⟨f1, f2, f3, f4, f5⟩ := zrad_facts (x := (zrh s0 c).2.2.1) (y := (zrh s0 c).2.2.2.1) (z := (zrh s0 c).2.2.2.2) hW (show zrn s < 5 by omega) (t := (zrh s0 c).1) (by rw [h5]; exact hwr)
    have hcj : zrn s0 - 1 - zrn s = c := by omega
    have hJ : zJ3 s0 P1 (zrad s (zrh s0 c).1 (zrh s0 c).2.2.1 (zrh s0 c).2.2.2.1 (zrh s0 c).2.2.2.2) (s :: L.take 9) (zrn s) := by
      refine ⟨⟨hP1, ?_, ?_, ?_⟩, by rw [f1 0 (by omega)]; exact h5, ?_⟩
      · intro t ht
        rw [f1 0 (by omega)] at ht
        have h05 := hW.1
        rw [f1 _ (by omega)]; exact h2 t ht
      · intro i a b
        rw [f1 _ (by omega)]; exact h3 i a b
      · intro t k ht hk
        have := h4 t k ht hk
        unfold zfacts at this ⊢
        rw [f1 _ (by omega)]; exact this
      · intro r hrj
        obtain ⟨p1, p2, p3⟩ := h6 r (by omega)
        obtain ⟨g1, g2, g3⟩ := f5 r hrj
        refine ⟨g1.trans p1, g2.trans p2, ?_⟩
        intro i hi
        obtain ⟨w1, w2⟩ := p3 i hi
        obtain ⟨v1, v2⟩ := g3 i (by rw [p2]; exact hi)
        exact ⟨v1.trans w1, (zbN_same v2).trans w2⟩
    have hRr : zRr s0 (zrad s (zrh s0 c).1 (zrh s0 c).2.2.1 (zrh s0 c).2.2.2.1 (zrh s0 c).2.2.2.2) (zrn s) (zrn s0 - 1 - zrn s) (zbn s0 (zrn s0 - 1 - zrn s) - zbn s0 (zrn s0 - 1 - zrn s)) := by
      rw [hcj, Nat.sub_self]
      exact ⟨by rw [f3, ← hw], f4, fun i hi => absurd hi (Nat.not_lt_zero _)⟩
    obtain ⟨P2, s2, L2, x22, e2, hJ2, hz2⟩ := zy_tb154 K hK hW0 hV0 (nI (s0 0)) (nI (zrn s0)) hC vFa hR (hL_toldBackward_112 K (nI (s0 0)) (nI (zrn s0)) vCol vFa vRu n) (nI c) (j := zrn s) (by omega) (zbn s0 (zrn s0 - 1 - zrn s)) 6 (by rw [hcj]; omega) (Nat.le_refl _) x2 hJ f2 hRr
    rw [hcj] at e2
    have hzz : zrn s + 1 = zrn s0 - c := by omega
    rw [hzz] at hJ2 hz2
    obtain ⟨P', s', L', x2', e, b1, b2⟩ := ih n (by omega) (by omega) x22 hJ2 hz2
    refine ⟨P', s', L', x2', ?_, b1, b2⟩
    have i0 : inB (0 : Int32) 25 = true := by decide
    have i1 : inB (1 : Int32) 25 = true := by decide
    have i2 : inB (2 : Int32) 25 = true := by decide
    have i3 : inB (3 : Int32) 25 = true := by decide
    have i4 : inB (4 : Int32) 25 = true := by decide
    rw [hL_toldBackward_112, if_neg (zy_nneg (by omega)), zi_dec, if_pos (zy_i5 hc5), if_pos i0, if_pos i1, if_pos i2, if_pos i3, zi_clamp (show c < 2147483648 by omega), zy_c0, show (1 : Int32).toNatClampNeg = 1 by decide, show (2 : Int32).toNatClampNeg = 2 by decide, show (3 : Int32).toNatClampNeg = 3 by decide, g0, g1, g2, g3, e1, Option.bind_some, if_pos i4, zy_c4, zyR_n hR hcr, zy_m1]
    exact e2.trans e
/-- the facts, the last one first -/
def zJ4 (s0 s1 : Nat → Nat) (P : zObj) (s : Nat → Nat) (L : List (Nat → Nat)) (t k : Nat) : Prop := zIc P s L ∧ (∀ i, i < 2780 → (i < 6 ∨ 2566 ≤ i) → s i = s1 i) ∧ ∀ u j, u < 5 → j < 512 → zfacts s u j = (zfacts s0 u j && (decide (t < u) || decide (u = t) && decide (k ≤ j)))
theorem zy_tb204 (K : Nat) (hK : 1000000 < K) {s0 s1 : Nat → Nat} (hW0 : zWF s0) (h60 : ∀ t, t < 5 → zcnt (zfacts s0 t) 512 < 60) (h01 : s1 0 = s0 0) (hw1 : ∀ t, t < s0 0 → s1 (1 + t) = s0 (1 + t)) (vTa vRc : Int32) (vCol : Nat → Int32) {vFa : Nat → Nat → Int32} (hF : zyW (zfacts s0) vFa) (vRu : Nat → Nat → Int32) (r195 : Int32 → Int32 → zObj → Option (zObj)) {t : Nat} (ht : t < s0 0) : ∀ c n, c < n → c ≤ 512 → ∀ {P : zObj} {s : Nat → Nat} {L : List (Nat → Nat)} (x2 : Int32), zJ4 s0 s1 P s L t c → ∃ P' s' L' x2', hL_toldBackward_204 K vTa vRc vCol vFa vRu r195 n x2 (nI t) (nI c + (-1)) P = r195 x2' (nI t + (-1)) P' ∧ zJ4 s0 s1 P' s' L' t 0 := by
  have h05 := hW0.1
  intro c
  induction c with
  | zero =>
    intro n hn hc P s L x2 h
    obtain ⟨n, rfl⟩ : ∃ z, n = z + 1 := ⟨n - 1, by omega⟩
    refine ⟨P, s, L, x2, ?_, h⟩
    rw [hL_toldBackward_204, if_pos zy_neg]
  | succ c ih =>
    intro n hn hc P s L x2 h
    obtain ⟨n, rfl⟩ : ∃ z, n = z + 1 := ⟨n - 1, by omega⟩
    obtain ⟨h1, h2, h3⟩ := h
    have hW := h1.1
    have ht5 : t < 5 := by omega
    have hc5 : c < 512 := by omega
    have i512 : inB (nI c) 512 = true := by rw [zi_inB (by omega)]; exact hc5
    have st : ∀ x, (if vFa t c = 0 then hL_toldBackward_231 K vTa vRc vCol vFa vRu r195 (hL_toldBackward_204 K vTa vRc vCol vFa vRu r195 n) x2 (nI t) (nI c) P else ((hL_addFact K (nI t) (nI c) P).bind fun q226 => hL_toldBackward_231 K vTa vRc vCol vFa vRu r195 (hL_toldBackward_204 K vTa vRc vCol vFa vRu r195 n) (x2 + q226.1) (nI t) (nI c) q226.2)) = x → hL_toldBackward_204 K vTa vRc vCol vFa vRu r195 (n + 1) x2 (nI t) (nI (c + 1) + (-1)) P = x := by
      intro x hx
      rw [← hx, hL_toldBackward_204, if_neg (zy_nneg (by omega)), zi_dec, if_pos (zy_i5 ht5), if_pos i512, zi_clamp (show t < 2147483648 by omega), zi_clamp (show c < 2147483648 by omega)]
    have hf := hF t c ht5 hc5
    have hs0 : s 0 = s0 0 := by rw [h2 0 (by omega) (by omega)]; exact h01
    have hnow : zfacts s t c = false := by
      rw [h3 t c ht5 hc5, decide_eq_false (Nat.lt_irrefl t), decide_eq_false (by omega : ¬ c + 1 ≤ c)]
      simp
    cases ef : zfacts s0 t c
    · have hJ : zJ4 s0 s1 P s L t c := by
        refine ⟨h1, h2, ?_⟩
        intro u j hu hj
        rw [h3 u j hu hj]
        by_cases g : u = t ∧ j = c
        · rw [g.1, g.2, ef]; rfl
        · by_cases g1 : u = t
          · rw [show decide (c + 1 ≤ j) = decide (c ≤ j) from decide_eq_decide.mpr ⟨fun a => by omega, fun a => by
              have : j ≠ c := fun e => g ⟨g1, e⟩
              omega⟩]
          · rw [decide_eq_false g1]; simp
      obtain ⟨P', s', L', x2', e, b1⟩ := ih n (by omega) (by omega) x2 hJ
      refine ⟨P', s', L', x2', ?_, b1⟩
      apply st
      rw [hf, ef, if_pos (show bI false = 0 from rfl)]
      unfold hL_toldBackward_231
      exact e
    · have hin := (hW0.2.2.2.1 t c ht5 hc5 ef).2
      have hin' : zin (s (1 + t)) c := by rw [h2 (1 + t) (by omega) (by omega), hw1 t ht]; exact hin
      have hcnt : zcnt (zfacts s t) 512 < 60 := by
        refine Nat.lt_of_le_of_lt (zcnt_le_of (q := zfacts s0 t) ?_) (h60 t ht5)
        intro j hj g
        rw [h3 t j ht5 hj, Bool.and_eq_true] at g
        exact g.1
      obtain ⟨P1, e1, hP1⟩ := zy_addFact K hK h1 (show t < s 0 by omega) hc5 hin' hcnt
      rw [hnow, if_neg (by decide)] at e1
      rw [hnow, if_neg (by decide), if_neg (by decide)] at hP1
      have hJ : zJ4 s0 s1 P1 (zup s (6 + 512 * t + c) 1) (s :: L.take 9) t c := by
        refine ⟨hP1, ?_, ?_⟩
        · intro i hi hi2
          rw [zup_ne _ _ (by omega)]; exact h2 i hi hi2
        · intro u j hu hj
          rw [zfac_1 s hc5 hj, h3 u j hu hj]
          by_cases g : u = t ∧ j = c
          · rw [g.1, g.2, ef]; simp
          · by_cases g1 : u = t
            · have gj : j ≠ c := fun e => g ⟨g1, e⟩
              rw [decide_eq_false gj, Bool.and_false, Bool.or_false, show decide (c + 1 ≤ j) = decide (c ≤ j) from decide_eq_decide.mpr ⟨fun a => by omega, fun a => by omega⟩]
            · rw [decide_eq_false g1]; simp
      obtain ⟨P', s', L', x2', e, b1⟩ := ih n (by omega) (by omega) (x2 + nI (zcnt (zfacts s t) 512 + 1)) hJ
      refine ⟨P', s', L', x2', ?_, b1⟩
      apply st
      rw [hf, ef, if_neg (show ¬ bI true = 0 by decide), e1, Option.bind_some]
      unfold hL_toldBackward_231
      exact e
theorem zy_tb195 (K : Nat) (hK : 1000000 < K) {s0 s1 : Nat → Nat} (hW0 : zWF s0) (h60 : ∀ t, t < 5 → zcnt (zfacts s0 t) 512 < 60) (h01 : s1 0 = s0 0) (hw1 : ∀ t, t < s0 0 → s1 (1 + t) = s0 (1 + t)) (vTa vRc : Int32) (vCol : Nat → Int32) {vFa : Nat → Nat → Int32} (hF : zyW (zfacts s0) vFa) (vRu : Nat → Nat → Int32) : ∀ c n, c < n → c ≤ s0 0 → ∀ {P : zObj} {s : Nat → Nat} {L : List (Nat → Nat)} (x2 : Int32), (zIc P s L ∧ (∀ i, i < 2780 → (i < 6 ∨ 2566 ≤ i) → s i = s1 i) ∧ ∀ u j, u < 5 → j < 512 → zfacts s u j = (zfacts s0 u j && decide (c ≤ u))) → ∃ P' s' L', hL_toldBackward_195 K vTa vRc vCol vFa vRu n x2 (nI c + (-1)) P = some P' ∧ zIc P' s' L' ∧ (∀ i, i < 2780 → (i < 6 ∨ 2566 ≤ i) → s' i = s1 i) ∧ zeqR (zfacts s') (zfacts s0) := by
  have h05 := hW0.1
  intro c
  induction c with
  | zero =>
    intro n hn hc P s L x2 h
    obtain ⟨n, rfl⟩ : ∃ z, n = z + 1 := ⟨n - 1, by omega⟩
    refine ⟨P, s, L, ?_, h.1, h.2.1, ?_⟩
    · rw [hL_toldBackward_195, if_pos zy_neg]
    · intro u j hu hj
      rw [h.2.2 u j hu hj, decide_eq_true (Nat.zero_le u), Bool.and_true]
  | succ c ih =>
    intro n hn hc P s L x2 h
    obtain ⟨n, rfl⟩ : ∃ z, n = z + 1 := ⟨n - 1, by omega⟩
    obtain ⟨h1, h2, h3⟩ := h
    have hJ : zJ4 s0 s1 P s L c 512 := by
      refine ⟨h1, h2, ?_⟩
      intro u j hu hj
      rw [h3 u j hu hj, decide_eq_false (by omega : ¬ 512 ≤ j), Bool.and_false, Bool.or_false]
      rw [show decide (c + 1 ≤ u) = decide (c < u) from decide_eq_decide.mpr ⟨fun a => by omega, fun a => by omega⟩]
    obtain ⟨P1, s2, L2, x22, e1, k1, k2, k3⟩ := zy_tb204 K hK hW0 h60 h01 hw1 vTa vRc vCol hF vRu (hL_toldBackward_195 K vTa vRc vCol vFa vRu n) (t := c) (by omega) 512 514 (by omega) (Nat.le_refl _) x2 hJ
    obtain ⟨P', s', L', e, b1, b2, b3⟩ := ih n (by omega) (by omega) x22 ⟨k1, k2, fun u j hu hj => by
      rw [k3 u j hu hj, decide_eq_true (Nat.zero_le j), Bool.and_true]
      congr 1
      by_cases g : c ≤ u
      · rw [decide_eq_true g]
        by_cases g2 : u = c
        · rw [decide_eq_true g2, Bool.or_true]
        · rw [decide_eq_true (by omega : c < u), Bool.true_or]
      · rw [decide_eq_false g, decide_eq_false (by omega : ¬ c < u), decide_eq_false (by omega : ¬ u = c)]; rfl⟩
    refine ⟨P', s', L', ?_, b1, b2, b3⟩
    have e511 : nI 512 + (-1) = (511 : Int32) := by decide
    rw [e511] at e1
    rw [hL_toldBackward_195, if_neg (zy_nneg (by omega)), zi_dec]
    exact e1.trans e
theorem zy_toldBackward (K : Nat) (hK : 1000000 < K) {s0 : Nat → Nat} (hW0 : zWF s0) (hV0 : zVr s0) (h60 : ∀ t, t < 5 → zcnt (zfacts s0 t) 512 < 60) (hw : 3 ≤ s0 0 ∧ s0 1 = 2 ∧ s0 2 = 2 ∧ s0 3 = 1) (hq : ∀ i, 2566 ≤ i → i < 2654 → s0 i = zcs19 i) {vCol : Nat → Int32} (hC : zyC s0 vCol) {vFa vRu : Nat → Nat → Int32} (hF : zyW (zfacts s0) vFa) (hR : zyR s0 vRu) :
    ∃ P s L, hL_toldBackward K (nI (s0 0)) (nI (zrn s0)) vCol vFa vRu = some P ∧ zIc P s L ∧ s 0 = s0 0 ∧ (∀ t, t < s0 0 → s (1 + t) = s0 (1 + t)) ∧ (∀ i, 2566 ≤ i → i < 2654 → s i = s0 i) ∧ zBk s0 s ∧ zeqR (zfacts s) (zfacts s0) := by
  obtain ⟨P0, s, e0, hP0, hs⟩ := zd_init K hK
  obtain ⟨f1, f2, f3⟩ := zy_firstN
  have hn2 : zrn s = 2 := by show s 2654 = 2; rw [hs _ (by omega)]; exact f1
  have s0' : s 0 = 3 := by rw [hs 0 (by omega)]; decide
  have s1 : s 1 = 2 := by rw [hs 1 (by omega)]; decide
  have s2 : s 2 = 2 := by rw [hs 2 (by omega)]; decide
  have s3 : s 3 = 1 := by rw [hs 3 (by omega)]; decide
  obtain ⟨P1, e1, hP1⟩ := zd_dropRule K hK hP0 (u := 1) (by omega)
  have hlow1 : ∀ i, i < 2654 → zdrop s 1 i = s i := by
    intro i hi
    unfold zdrop
    rw [if_neg (by omega), if_neg (by unfold zhp; omega)]
  have hn1 : zrn (zdrop s 1) = 1 := by
    show zdrop s 1 2654 = 1
    unfold zdrop
    rw [if_pos rfl]
    have : s 2654 = 2 := hn2
    omega
  obtain ⟨P2, e2, hP2⟩ := zd_dropRule K hK hP1 (u := 0) (by omega)
  have hlow2 : ∀ i, i < 2654 → zdrop (zdrop s 1) 0 i = s i := by
    intro i hi
    have : zdrop (zdrop s 1) 0 i = zdrop s 1 i := by
      show (if i = 2654 then zdrop s 1 2654 - 1 else if zhp 0 ≤ i ∧ i < 2755 then zdrop s 1 (i + 25) else zdrop s 1 i) = _
      rw [if_neg (by omega), if_neg (by unfold zhp; omega)]
    rw [this]
    exact hlow1 i hi
  have hn0 : zrn (zdrop (zdrop s 1) 0) = 0 := by
    rw [(zdrop_facts hP1.1 (r := 0) (by omega)).2.1, hn1]
  have hff : ∀ t k, t < 5 → k < 512 → zfacts (zdrop (zdrop s 1) 0) t k = zf0 t k := by
    intro t k ht hk
    rw [← zf0_ok hs ht hk]
    unfold zfacts
    rw [hlow2 _ (by omega)]
  have hJ1 : zJ1 P2 (zdrop (zdrop s 1) 0) (zdrop s 1 :: (s :: ([] : List (Nat → Nat)).take 9).take 9) := by
    refine ⟨hP2, hn0, ?_, ?_, ?_, ?_, ?_, ?_⟩
    · rw [hlow2 _ (by omega)]; exact s0'
    · rw [hlow2 _ (by omega)]; exact s1
    · rw [hlow2 _ (by omega)]; exact s2
    · rw [hlow2 _ (by omega)]; exact s3
    · intro i a b
      rw [hlow2 _ (by omega)]; exact hs i (by omega)
    · intro t k a b hk
      rw [hff t k b hk]
      unfold zf0
      rw [decide_eq_false (by omega : ¬ t = 0), decide_eq_false (by omega : ¬ t = 2)]
      rfl
  -- the tables emptied
  obtain ⟨⟨Pa, sa, La, xa⟩, ⟨k1, k2⟩, e22⟩ := z_forD (F := fun k t (z : zObj × (Nat → Nat) × List (Nat → Nat) × Int32) => hL_toldBackward_22 K (nI (s0 0)) (nI (zrn s0)) vCol vFa vRu k z.2.2.2 (nI t) z.1) (n := 3) (inv := fun t z => zJ1 z.1 z.2.1 z.2.2.1 ∧ ∀ u k, u < 5 → k < 512 → zfacts z.2.1 u k = if u < t then false else zf0 u k) (D := fun z => hL_toldBackward_78 K (nI (s0 0)) (nI (zrn s0)) vCol vFa vRu 7 z.2.2.2 (nI 3) z.1)
    (by
      rintro k t ⟨Pb, sb, Lb, xb⟩ ht ⟨w1, w2⟩
      have w1' : zJ1 Pb sb Lb := w1
      have w2' : ∀ u k, u < 5 → k < 512 → zfacts sb u k = if u < t then false else zf0 u k := w2
      have hcnt : zcnt (zfacts sb t) 512 ≤ 6 := by
        rw [zcnt_cong (q := zf0 t) (fun k hk => by rw [w2' t k (by omega) hk, if_neg (Nat.lt_irrefl t)])]
        exact zf0_cnt ⟨t, by omega⟩
      obtain ⟨Pc, sc, Lc, xc, e, g1, g2, g3⟩ := zy_tb27 K hK (nI (s0 0)) (nI (zrn s0)) vCol vFa vRu (hL_toldBackward_22 K (nI (s0 0)) (nI (zrn s0)) vCol vFa vRu k) ht _ 9 (by omega) (by omega) xb w1' rfl
      refine ⟨(Pc, sc, Lc, xc), ⟨g1, ?_⟩, ?_⟩
      · intro u j hu hj
        show zfacts sc u j = _
        by_cases g : u = t
        · rw [g, if_pos (by omega)]
          rw [← Bool.not_eq_true]
          intro h
          have := zcnt_mono (zfacts sc t) (show j + 1 ≤ 512 by omega)
          rw [zcnt_s, h] at this
          have e1 : (true).toNat = 1 := rfl
          omega
        · rw [g3 u j g hj, w2' u j hu hj]
          by_cases g4 : u < t
          · rw [if_pos g4, if_pos (by omega)]
          · rw [if_neg g4, if_neg (by omega)]
      · show hL_toldBackward_22 K (nI (s0 0)) (nI (zrn s0)) vCol vFa vRu (k + 1) xb (nI t) Pb = _
        rw [hL_toldBackward_22, if_neg (show ¬ (3 : Int32) ≤ nI t by rw [show (3 : Int32) = nI 3 from rfl, zi_le (by omega) (by omega)]; omega)]
        exact e)
    (by
      rintro k ⟨Pb, sb, Lb, xb⟩ hinv
      show hL_toldBackward_22 K (nI (s0 0)) (nI (zrn s0)) vCol vFa vRu (k + 1) xb (nI 3) Pb = _
      rw [hL_toldBackward_22, if_pos (show (3 : Int32) ≤ nI 3 by decide)]
      rfl) 3 5 0 (P2, zdrop (zdrop s 1) 0, zdrop s 1 :: (s :: ([] : List (Nat → Nat)).take 9).take 9, nI (zrn s - 1) + nI (zrn (zdrop s 1) - 1)) (by omega) ⟨hJ1, fun u k hu hk => by rw [if_neg (Nat.not_lt_zero u)]; exact hff u k hu hk⟩ (by omega)
  obtain ⟨ka, kn, kt, kw1, kw2, kw3, kq, kf⟩ := k1
  have kt' : sa 0 = 3 := kt
  have hJ2 : zJ2 s0 Pa sa La := by
    refine ⟨ka, ?_, kq, ?_⟩
    · intro t ht
      have ht' : t < sa 0 := ht
      rw [kt'] at ht'
      have : t = 0 ∨ t = 1 ∨ t = 2 := by omega
      rcases this with g | g | g <;> subst g
      · exact kw1.trans hw.2.1.symm
      · exact kw2.trans hw.2.2.1.symm
      · exact kw3.trans hw.2.2.2.symm
    · intro t k ht hk
      have := k2 t k ht hk
      have h2 : zfacts sa t k = if t < 3 then false else zf0 t k := this
      rw [h2]
      by_cases g : t < 3
      · rw [if_pos g]
      · rw [if_neg g]
        unfold zf0
        rw [decide_eq_false (by omega : ¬ t = 0), decide_eq_false (by omega : ¬ t = 2)]
        rfl
  have h05 := hW0.1
  obtain ⟨Pd, sd, Ld, xd, e78, d1, d2, d3⟩ := zy_tb78 K hK hW0 (nI (zrn s0)) hC vFa vRu (s0 0 - 3) 7 (by omega) xa hJ2 kn (by rw [kt']; omega)
  rw [kt'] at e78
  have hs0 := hW0.2.2.2.2.2.2.1
  have hn5 := hs0.1
  have hJ3 : zJ3 s0 Pd sd Ld (zrn s0 - zrn s0) := ⟨d1, d3, fun r hr => by omega⟩
  obtain ⟨Pe, se, Le, xe, e112, g1, g2⟩ := zy_tb112 K hK hW0 hV0 hC vFa hR (zrn s0) 7 (by omega) (Nat.le_refl _) xd hJ3 (by rw [d2]; omega)
  obtain ⟨⟨b1, b2, b3, b4⟩, b5, b6⟩ := g1
  have hse : ∀ t, t < s0 0 → se (1 + t) = s0 (1 + t) := fun t ht => b2 t (by rw [b5]; exact ht)
  obtain ⟨P', s', L', e195, c1, c2, c3⟩ := zy_tb195 K hK hW0 h60 (s1 := se) b5 hse (nI (s0 0)) (nI (zrn s0)) vCol hF vRu (s0 0) 7 (by omega) (Nat.le_refl _) xe ⟨b1, fun i _ _ => rfl, fun u j hu hj => by
    rw [b4 u j hu hj]
    symm
    rw [← Bool.not_eq_true, Bool.and_eq_true, decide_eq_true_eq]
    rintro ⟨a, b⟩
    have := (hW0.2.2.2.1 u j hu hj a).1
    omega⟩
  refine ⟨P', s', L', ?_, c1, ?_, ?_, ?_, ?_, c3⟩
  · unfold hL_toldBackward
    rw [e0, Option.bind_some]
    have e1' : hX11_dropRule K P0 (1 : Int32) = some (nI (zrn s - 1), P1) := e1
    have e2' : hX11_dropRule K P1 (0 : Int32) = some (nI (zrn (zdrop s 1) - 1), P2) := e2
    rw [e1', Option.bind_some, e2', Option.bind_some]
    refine e22.trans (e78.trans ?_)
    rw [zy_m1]
    refine e112.trans ?_
    rw [zy_m1]
    exact e195
  · rw [c2 0 (by omega) (by omega)]; exact b5
  · intro t ht
    rw [c2 _ (by omega) (by omega)]; exact hse t ht
  · intro i a b
    rw [c2 i (by omega) (by omega), b3 i a b, hq i a b]
  · -- the rules
    have hWe := b1.1
    have hT : zsmT se s' := ⟨by rw [c2 0 (by omega) (by omega)]; exact Nat.le_refl _, fun t ht => c2 _ (by rw [b5] at ht; omega) (by rw [b5] at ht; omega)⟩
    have hsm : zsmR se s' := zsmR_of hWe hT (fun i a b => c2 i b (Or.inr (by omega)))
    refine ⟨by rw [hsm.1, g2], ?_⟩
    intro r hr
    obtain ⟨q1, q2, q3⟩ := b6 r hr
    obtain ⟨p1, p2, p3⟩ := hsm.2 r (by rw [g2]; exact hr)
    refine ⟨p1.trans q1, p2.trans q2, ?_⟩
    intro i hi
    obtain ⟨w1, w2⟩ := q3 i hi
    obtain ⟨v1, v2⟩ := p3 i (by rw [q2]; exact hi)
    exact ⟨v1.trans w1, (zbN_same v2).trans w2⟩
