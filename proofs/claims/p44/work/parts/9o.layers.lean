/-! the layers that the law reckons -/
theorem zy_c0 : (0 : Int32).toNatClampNeg = 0 := by decide
theorem zy_bI (b : Bool) : bI b = nI b.toNat := by cases b <;> rfl
theorem zy_fl118 (K : Nat) (vRc : Int32) {s : Nat → Nat} {vRu : Nat → Nat → Int32} (hs : zRul s) (hR : zyR s vRu) (r22 : Int32 → (Nat → Int32) → Option (Bool × (Nat → Int32))) (r32 : Int32 → Int32 → Int32 → (Nat → Int32) → Option (Bool × (Nat → Int32))) (r43 : Int32 → Int32 → Int32 → Int32 → (Nat → Int32) → Option (Bool × (Nat → Int32))) (x1 : Int32) {r : Nat} (hr : r < zrn s) (x4 x5 t0 : Int32) (g : Nat → Int32) :
    hX13_findsLayers_118 K vRc vRu r22 r32 r43 x1 (nI r) x4 x5 t0 g = r43 x1 t0 (nI r) (x4 + (1 : Int32)) (upd g (zrh s r).1 (if g (zrh s r).1 < x5 then x5 else g (zrh s r).1)) := by
  have hrn := hs.1
  obtain ⟨a1, a2, a3⟩ := hs.2 r hr
  have hr5 : r < 5 := by omega
  have h5 := a1.1
  have h0 : vRu r 0 = nI (zrh s r).1 := hR r hr 0 (by omega)
  unfold hX13_findsLayers_118
  rw [if_pos (zy_i5 hr5), if_pos (show inB (0 : Int32) 25 = true by decide), if_pos (zy_i5 hr5), if_pos (show inB (0 : Int32) 25 = true by decide), zi_clamp (show r < 2147483648 by omega), zy_c0, h0, if_pos (zy_i5 h5), if_pos (zy_i5 h5), zi_clamp (show (zrh s r).1 < 2147483648 by omega)]
theorem zy_fl43 (K : Nat) (hK : 8 < K) (vRc : Int32) {s : Nat → Nat} {vRu : Nat → Nat → Int32} (hs : zRul s) (hR : zyR s vRu) (r22 : Int32 → (Nat → Int32) → Option (Bool × (Nat → Int32))) (r32 : Int32 → Int32 → Int32 → (Nat → Int32) → Option (Bool × (Nat → Int32))) (x1 : Int32) {r : Nat} (hr : r < zrn s) {L L0 : Nat → Nat} {b : Bool} {g : Nat → Int32} {c : Nat} (hc : c < 100000) (hP : zPart (zE s) (zDM s r 0) L L0 b) (hg : zLy g L0 c) :
    ∃ b' g' L', hX13_findsLayers_43 K vRc vRu r22 r32 K x1 (bI (!b)) (nI r) (nI 0) g = r32 x1 (bI (!b')) (nI (r + 1)) g' ∧ zPart (zE s) (zDM s (r + 1) 0) L L' b' ∧ zLy g' L' (c + 6) := by
  have hE := zE_ok hs
  obtain ⟨a1, a2, a3⟩ := hs.2 r hr
  have hrn := hs.1
  have hr5 : r < 5 := by omega
  have h5 := a1.1
  have e1 : (1 : Int32) = nI 1 := rfl
  have h0 : vRu r 0 = nI (zrh s r).1 := hR r hr 0 (by omega)
  obtain ⟨⟨b1, g1, L1⟩, ⟨hP1, hg1⟩, e2⟩ := z_forD (F := fun k i (z : Bool × (Nat → Int32) × (Nat → Nat)) => hX13_findsLayers_43 K vRc vRu r22 r32 k x1 (bI (!z.1)) (nI r) (nI i) z.2.1) (n := zbn s r) (inv := fun i z => zPart (zE s) (zDM s r i) L z.2.2 z.1 ∧ zLy z.2.1 z.2.2 (c + i))
    (D := fun z => r32 x1 (bI (!z.1)) (nI (r + 1)) z.2.1)
    (by
      rintro k i ⟨b0, g0, L1⟩ hi ⟨q1, q2⟩
      have hA := (a3 i hi).1
      have hA1 := hA.1
      obtain ⟨gu, lu⟩ := q2 _ hA1
      obtain ⟨gh, lh⟩ := q2 _ h5
      have gu' : g0 (zba s r i).1 = nI (L1 (zba s r i).1) := gu
      have gh' : g0 (zrh s r).1 = nI (L1 (zrh s r).1) := gh
      have lu' : L1 (zba s r i).1 ≤ c + i := lu
      have lh' : L1 (zrh s r).1 ≤ c + i := lh
      have hwle : (zbN s r i).toNat ≤ 1 := Bool.toNat_le _
      have hedge : zE s (zrh s r).1 (zba s r i).1 (zbN s r i).toNat := ⟨r, i, hr, hi, rfl, rfl, rfl⟩
      have hstep := zPart_step hE q1 (D' := zDM s r (i + 1)) hedge (by
          rintro h' u' w' (e | e | ⟨i', h1, h2, h3, h4⟩)
          · exact Or.inl (Or.inl e)
          · exact Or.inl (Or.inr (Or.inl e))
          · by_cases g : i' = i
            · subst g; exact Or.inr h4
            · exact Or.inl (Or.inr (Or.inr ⟨i', by omega, h2, h3, h4⟩))) (by intro h' u' w' e; exact zDM_E e)
      have e9 : (9 : Int32) + ((5 : Int32) * nI i) = nI (9 + 5 * i) := by rw [show (9 : Int32) = nI 9 from rfl, show (5 : Int32) = nI 5 from rfl, zi_mul, zi_add]
      have e5 : (5 : Int32) + ((5 : Int32) * nI i) = nI (5 + 5 * i) := by rw [show (5 : Int32) = nI 5 from rfl, zi_mul, zi_add]
      have hu5 : vRu r (5 + 5 * i) = nI (zba s r i).1 := by
        rw [hR r hr (5 + 5 * i) (by omega), show zhp r + (5 + 5 * i) = zbp r i by unfold zbp; omega]
        rfl
      refine ⟨(b0 || decide (L1 (zrh s r).1 < L1 (zba s r i).1 + (zbN s r i).toNat), upd g0 (zrh s r).1 (if g0 (zrh s r).1 < nI (L1 (zba s r i).1 + (zbN s r i).toNat) then nI (L1 (zba s r i).1 + (zbN s r i).toNat) else g0 (zrh s r).1), zrl L1 (zrh s r).1 (zba s r i).1 (zbN s r i).toNat), ⟨hstep, ?_⟩, ?_⟩
      · intro t ht
        obtain ⟨m1, m2⟩ := q2 t ht
        have m1' : g0 t = nI (L1 t) := m1
        have m2' : L1 t ≤ c + i := m2
        show upd g0 _ _ t = nI (zrl L1 _ _ _ t) ∧ zrl L1 _ _ _ t ≤ c + (i + 1)
        unfold zrl
        by_cases c1 : L1 (zrh s r).1 < L1 (zba s r i).1 + (zbN s r i).toNat
        · rw [if_pos c1, gh', if_pos (by rw [zi_lt (by omega) (by omega)]; exact c1), zu_at, zq_at]
          split
          · exact ⟨rfl, by omega⟩
          · exact ⟨m1', by omega⟩
        · rw [if_neg c1, gh', if_neg (by rw [zi_lt (by omega) (by omega)]; exact c1), zu_at]
          split
          · rename_i e; rw [e]; exact ⟨rfl, by omega⟩
          · exact ⟨m1', by omega⟩
      · show hX13_findsLayers_43 K vRc vRu r22 r32 (k + 1) x1 (bI (!b0)) (nI r) (nI i) g0 = hX13_findsLayers_43 K vRc vRu r22 r32 k x1 (bI (!(b0 || decide (L1 (zrh s r).1 < L1 (zba s r i).1 + (zbN s r i).toNat)))) (nI r) (nI (i + 1)) (upd g0 (zrh s r).1 (if g0 (zrh s r).1 < nI (L1 (zba s r i).1 + (zbN s r i).toNat) then nI (L1 (zba s r i).1 + (zbN s r i).toNat) else g0 (zrh s r).1))
        rw [hX13_findsLayers_43, if_pos (zy_i5 hr5), if_pos (show inB (4 : Int32) 25 = true by decide), zi_clamp (show r < 2147483648 by omega), zy_c4, zyR_n hR hr, if_neg (by rw [zi_le (by omega) (by omega)]; omega), if_pos (zy_i5 hr5), e5, if_pos (zy_i25 (by omega)), zi_clamp (show 5 + 5 * i < 2147483648 by omega), hu5, if_pos (zy_i5 hA1), if_pos (zy_i5 hr5), e9, if_pos (zy_i25 (by omega)), zi_clamp (show 9 + 5 * i < 2147483648 by omega), zyR_not hs hR hr hi, zy_bI (zbN s r i), zi_clamp (show (zba s r i).1 < 2147483648 by omega), gu', zi_add, zy_c0, h0, zi_clamp (show (zrh s r).1 < 2147483648 by omega)]
        unfold hX13_findsLayers_117
        rw [zy_fl118 K vRc hs hR r22 r32 _ x1 hr, zy_fl118 K vRc hs hR r22 r32 _ x1 hr, nI_succ]
        cases b0
        · rw [if_neg (show ¬ bI (!false) = 0 by decide), if_pos (zy_i5 hr5), if_pos (show inB (0 : Int32) 25 = true by decide), if_pos (zy_i5 h5), Bool.false_or]
          by_cases c1 : L1 (zrh s r).1 < L1 (zba s r i).1 + (zbN s r i).toNat
          · rw [decide_eq_true c1, gh', if_pos (show nI (L1 (zrh s r).1) < nI (L1 (zba s r i).1 + (zbN s r i).toNat) by rw [zi_lt (by omega) (by omega)]; exact c1)]
            rfl
          · rw [decide_eq_false c1, gh', if_neg (show ¬ nI (L1 (zrh s r).1) < nI (L1 (zba s r i).1 + (zbN s r i).toNat) by rw [zi_lt (by omega) (by omega)]; exact c1)]
            rfl
        · rw [if_pos (show bI (!true) = 0 from rfl), Bool.true_or]
          rfl)
    (by
      rintro k ⟨b0, g0, L1⟩ hinv
      show hX13_findsLayers_43 K vRc vRu r22 r32 (k + 1) x1 (bI (!b0)) (nI r) (nI (zbn s r)) g0 = _
      rw [hX13_findsLayers_43, if_pos (zy_i5 hr5), if_pos (show inB (4 : Int32) 25 = true by decide), zi_clamp (show r < 2147483648 by omega), zy_c4, zyR_n hR hr, if_pos (by rw [zi_le (by omega) (by omega)]; omega), nI_succ])
    (zbn s r) K 0 (b, g, L0) (by omega) ⟨hP, hg⟩ (by omega)
  refine ⟨b1, g1, L1, e2, ?_, fun t ht => ⟨(hg1 t ht).1, by have := (hg1 t ht).2; have h2 : L1 t ≤ c + zbn s r := this; omega⟩⟩
  apply zPart_weak hP1
  rintro h' u' w' (⟨r', i', h1, h2, h3, h4⟩ | ⟨r', h1, h2, h3⟩ | ⟨i', h1, h2, h3, h4⟩)
  · by_cases g : r' = r
    · subst g; exact Or.inr (Or.inr ⟨i', h3, h3, h2, h4⟩)
    · exact Or.inl ⟨r', i', by omega, h2, h3, h4⟩
  · exact h3.elim
  · omega
theorem zy_fl32 (K : Nat) (hK : 8 < K) {s : Nat → Nat} {vRu : Nat → Nat → Int32} (hs : zRul s) (hR : zyR s vRu) (r22 : Int32 → (Nat → Int32) → Option (Bool × (Nat → Int32))) (x1 : Int32) {L : Nat → Nat} {g : Nat → Int32} {c : Nat} (hc : c < 10000) (hg : zLy g L c) :
    ∃ b' g' L', hX13_findsLayers_32 K (nI (zrn s)) vRu r22 K x1 1 0 g = (if b' = true then r22 (x1 + (1 : Int32)) g' else some (true, g')) ∧ zPass (zE s) L L' b' ∧ zLy g' L' (c + 30) := by
  have hrn := hs.1
  obtain ⟨⟨b1, g1, L1⟩, ⟨hP1, hg1⟩, e2⟩ := z_forD (F := fun k r (z : Bool × (Nat → Int32) × (Nat → Nat)) => hX13_findsLayers_32 K (nI (zrn s)) vRu r22 k x1 (bI (!z.1)) (nI r) z.2.1) (n := zrn s) (inv := fun r z => zPart (zE s) (zDM s r 0) L z.2.2 z.1 ∧ zLy z.2.1 z.2.2 (c + 6 * r))
    (D := fun z => if z.1 = true then r22 (x1 + (1 : Int32)) z.2.1 else some (true, z.2.1))
    (by
      rintro k r ⟨b0, g0, L0⟩ hr ⟨q1, q2⟩
      obtain ⟨b', g', L', e, p1, p2⟩ := zy_fl43 K hK (nI (zrn s)) hs hR r22 (hX13_findsLayers_32 K (nI (zrn s)) vRu r22 k) x1 hr (by omega) q1 q2
      refine ⟨(b', g', L'), ⟨p1, by rw [show c + 6 * (r + 1) = c + 6 * r + 6 by omega]; exact p2⟩, ?_⟩
      show hX13_findsLayers_32 K (nI (zrn s)) vRu r22 (k + 1) x1 (bI (!b0)) (nI r) g0 = _
      rw [hX13_findsLayers_32, if_neg (by rw [zi_le (by omega) (by omega)]; omega)]
      exact e)
    (by
      rintro k ⟨b0, g0, L0⟩ hinv
      show hX13_findsLayers_32 K (nI (zrn s)) vRu r22 (k + 1) x1 (bI (!b0)) (nI (zrn s)) g0 = if b0 = true then r22 (x1 + (1 : Int32)) g0 else some (true, g0)
      rw [hX13_findsLayers_32, if_pos (by rw [zi_le (by omega) (by omega)]; exact Nat.le_refl _)]
      cases b0
      · rw [if_neg (show ¬ bI (!false) = 0 by decide), if_neg (by decide)]
      · rw [if_pos (show bI (!true) = 0 from rfl), if_pos rfl])
    (zrn s) K 0 (false, g, L) (by omega) ⟨zPart_0 _ (by
      rintro h' u' w' (⟨r', i', h1, _⟩ | ⟨r', h1, _⟩ | ⟨i', h1, _⟩) <;> omega) L, hg⟩ (by omega)
  refine ⟨b1, g1, L1, e2, ?_, fun t ht => ⟨(hg1 t ht).1, by have := (hg1 t ht).2; have h2 : L1 t ≤ c + 6 * zrn s := this; omega⟩⟩
  apply zPart_pass hP1
  rintro h' u' w' ⟨r, i, h1, h2, h3⟩
  exact Or.inl ⟨r, i, h1, h1, h2, h3⟩
theorem zy_findsLayers (K : Nat) (hK : 100 < K) {s : Nat → Nat} {vRu : Nat → Nat → Int32} (hs : zRul s) (hR : zyR s vRu) (g : Nat → Int32) :
    ∃ b g', hX13_findsLayers K (nI (zrn s)) vRu g = some (b, g') ∧ (b = true ↔ ∃ S, zStb (zE s) S) ∧ ∀ M, zLst (zE s) M → ∀ t, t < 5 → g' t = nI (M t) := by
  have hE := zE_ok hs
  have e1 : (1 : Int32) = nI 1 := rfl
  have main : ∀ g0, (∀ t, t < 5 → g0 t = nI 0) → ∃ r, ((r.1 = true ↔ ∃ S, zStb (zE s) S) ∧ ∀ M, zLst (zE s) M → ∀ t, t < 5 → r.2 t = nI (M t)) ∧ hX13_findsLayers_22 K (nI (zrn s)) vRu K 0 g0 = some r := by
    intro g0 hg0
    refine z_for (F := fun k p (z : (Nat → Int32) × (Nat → Nat)) => hX13_findsLayers_22 K (nI (zrn s)) vRu k (nI p) z.1) (n := 40)
      (inv := fun p z => zLy z.1 z.2 (30 * p) ∧ (∀ M, zLst (zE s) M → (∀ v, v < 5 → z.2 v ≤ M v) ∧ (5 ≤ zfin M z.2 ∨ p + 1 ≤ zfin M z.2)) ∧ (6 ≤ p → ¬ ∃ S, zStb (zE s) S))
      (post := fun r => (r.1 = true ↔ ∃ S, zStb (zE s) S) ∧ ∀ M, zLst (zE s) M → ∀ t, t < 5 → r.2 t = nI (M t)) ?_ ?_ 40 K 0 (g0, fun _ => 0) (by omega) ⟨fun t ht => ⟨hg0 t ht, Nat.zero_le _⟩, fun M hM => ⟨fun v _ => Nat.zero_le _, Or.inr (zfin_0 hE hM)⟩, fun h => by omega⟩ (by omega)
    · rintro k p ⟨g1, L1⟩ hp ⟨h1, h2, h3⟩
      obtain ⟨b', g', L', e, q1, q2⟩ := zy_fl32 K (by omega) hs hR (hX13_findsLayers_22 K (nI (zrn s)) vRu k) (nI p) (by omega) h1
      have st : hX13_findsLayers_22 K (nI (zrn s)) vRu (k + 1) (nI p) g1 = if b' = true then hX13_findsLayers_22 K (nI (zrn s)) vRu k (nI p + (1 : Int32)) g' else some (true, g') := by
        rw [hX13_findsLayers_22, if_neg (by rw [show (40 : Int32) = nI 40 from rfl, zi_le (by omega) (by omega)]; omega)]
        exact e
      cases b'
      · right
        obtain ⟨w1, w2⟩ := q1.2.2.1 rfl
        have hst : zStb (zE s) L1 := w2
        refine ⟨(true, g'), ⟨⟨fun _ => ⟨_, hst⟩, fun _ => rfl⟩, ?_⟩, ?_⟩
        · intro M hM t ht
          show g' t = _
          rw [(q2 t ht).1, w1 t ht, zLst_of hE hM (h2 M hM).1 hst ht]
        · show hX13_findsLayers_22 K (nI (zrn s)) vRu (k + 1) (nI p) g1 = _
          rw [st, if_neg (by decide)]
      · left
        refine ⟨(g', L'), ⟨by rw [show 30 * (p + 1) = 30 * p + 30 by omega]; exact q2, ?_, ?_⟩, ?_⟩
        · intro M hM
          obtain ⟨a1, a2⟩ := h2 M hM
          have hup : 5 ≤ zfin M L' ∨ zfin M L1 < zfin M L' := zfin_up hE hM a1 q1
          have a2' : 5 ≤ zfin M L1 ∨ p + 1 ≤ zfin M L1 := a2
          exact ⟨q1.2.1 M hM.1 a1, by show 5 ≤ zfin M L' ∨ p + 1 + 1 ≤ zfin M L'; omega⟩
        · intro h6
          rintro ⟨S, hS⟩
          obtain ⟨M, hM⟩ := zLst_ex hE hS
          obtain ⟨a1, a2⟩ := h2 M hM
          have h45 : 5 ≤ zfin M L1 := by
            have a2' : 5 ≤ zfin M L1 ∨ p + 1 ≤ zfin M L1 := a2
            omega
          obtain ⟨v, hv, hlt⟩ := q1.2.2.2.1 rfl
          have w1 : L1 v = M v := zfin_5 h45 hv
          have w2 : L' v ≤ M v := q1.2.1 M hM.1 a1 v hv
          have w3 : L1 v < L' v := hlt
          omega
        · show hX13_findsLayers_22 K (nI (zrn s)) vRu (k + 1) (nI p) g1 = _
          rw [st, if_pos rfl, nI_succ]
    · rintro k ⟨g1, L1⟩ ⟨h1, h2, h3⟩
      have hno := h3 (by omega)
      refine ⟨(false, g1), ⟨⟨fun q => absurd (show false = true from q) (by decide), fun q => (hno q).elim⟩, fun M hM => (hno ⟨M, hM.1⟩).elim⟩, ?_⟩
      show hX13_findsLayers_22 K (nI (zrn s)) vRu (k + 1) (nI 40) g1 = _
      rw [hX13_findsLayers_22, if_pos (show (40 : Int32) ≤ nI 40 by decide)]
  obtain ⟨g0, hg0, e0⟩ := z_forD (F := fun k t (g : Nat → Int32) => hX13_findsLayers_2 K (nI (zrn s)) vRu k (nI t) g) (n := 5) (inv := fun t g => ∀ u, u < t → g u = nI 0) (D := fun g => hX13_findsLayers_22 K (nI (zrn s)) vRu K 0 g)
    (by
      intro k t g ht hinv
      refine ⟨upd g t (nI 0), ?_, ?_⟩
      · intro u hu
        rw [zu_at]; split
        · rfl
        · exact hinv u (by omega)
      · rw [hX13_findsLayers_2, if_neg (by rw [show (5 : Int32) = nI 5 from rfl, zi_le (by omega) (by omega)]; omega), if_pos (by rw [zi_inB (by omega)]; exact ht), zi_clamp (by omega), e1, zi_add]
        rfl)
    (by
      intro k g hinv
      rw [hX13_findsLayers_2, if_pos (by decide)])
    5 K 0 g (by omega) (fun u hu => absurd hu (Nat.not_lt_zero _)) (by omega)
  obtain ⟨r, ⟨q1, q2⟩, e⟩ := main g0 hg0
  refine ⟨r.1, r.2, ?_, q1, q2⟩
  unfold hX13_findsLayers
  exact e0.trans e
