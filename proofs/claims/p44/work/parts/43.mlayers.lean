/-! the reference's layers -/
theorem zX12_headAt (r : Nat) : fX12_headAt (nI r) = some (nI (zhp r)) := by
  simp only [fX12_headAt, zi_lit, zi_add, zi_mul]; rfl
theorem zX12_ruleAtoms {now : Nat → Int32} {s : Nat → Nat} (h : zM now s) {r : Nat} (hr : r < 5) : fX12_ruleAtoms now (nI r) = some (nI (zbn s r)) := by
  unfold fX12_ruleAtoms
  have hp : zhp r + 4 < 2780 := by unfold zhp; omega
  rw [zX12_headAt, Option.bind_some, show (4 : Int32) = nI 4 from rfl, zi_add, if_pos (by rw [zi_inB (by omega)]; exact hp), zi_clamp (by omega), (h _ hp).1]; rfl
theorem zX12_ruleAtomAt (r i : Nat) : fX12_ruleAtomAt (nI r) (nI i) = some (nI (zbp r i)) := by
  unfold fX12_ruleAtomAt
  rw [zX12_headAt, Option.bind_some]
  simp only [zi_lit, zi_add, zi_mul]; rfl
theorem zbp_lt {r i : Nat} (hr : r < 5) (hi : i < 4) : zbp r i + 4 < 2780 := by unfold zbp zhp; omega
theorem zhp_lt {r : Nat} (hr : r < 5) : zhp r + 24 < 2780 := by unfold zhp; omega
def zDM (s : Nat → Nat) (r i : Nat) (h u w : Nat) : Prop := zDD s (fun _ _ _ _ => False) r i h u w
theorem zDM_E {s : Nat → Nat} {r i h u w : Nat} (e : zDM s r i h u w) : zE s h u w := by
  rcases zDD_E e with q | ⟨_, _, q⟩
  · exact q
  · exact q.elim
def zNone (s : Nat → Nat) (X : Option (Bool × (Nat → Int32))) : Prop := ∃ l, X = some (false, l) ∧ ¬ ∃ S, zStb (zE s) S
theorem zX12_fl56 (K : Nat) (hK : 8 < K) {now : Nat → Int32} {s : Nat → Nat} (h : zM now s) (hs : zRul s) (r22 : Int32 → (Nat → Int32) → Option (Bool × (Nat → Int32))) (r30 : Int32 → Int32 → (Nat → Int32) → Option (Bool × (Nat → Int32))) {r : Nat} (hr : r < zrn s) {L L0 : Nat → Nat} {b : Bool} {g : Nat → Int32} (hP : zPart (zE s) (zDM s r 0) L L0 b) (hL : ∀ M, zLst (zE s) M → ∀ v, v < 5 → L v ≤ M v) (hg : zLy g L0 4) :
    (∃ b' g' L', fX12_findsLayers_56 K now r22 r30 K (bI (!b)) (nI r) (nI (zrh s r).1) (nI 0) g = r30 (bI (!b')) (nI (r + 1)) g' ∧ zPart (zE s) (zDM s (r + 1) 0) L L' b' ∧ zLy g' L' 4) ∨ zNone s (fX12_findsLayers_56 K now r22 r30 K (bI (!b)) (nI r) (nI (zrh s r).1) (nI 0) g) := by
  have hE := zE_ok hs
  obtain ⟨a1, a2, a3⟩ := hs.2 r hr
  have hrn := hs.1
  have hr5 : r < 5 := by omega
  have hh5 := a1.1
  have e1 : (1 : Int32) = nI 1 := rfl
  rcases z_forDX (F := fun k i (z : Bool × (Nat → Int32) × (Nat → Nat)) => fX12_findsLayers_56 K now r22 r30 k (bI (!z.1)) (nI r) (nI (zrh s r).1) (nI i) z.2.1) (n := zbn s r) (inv := fun i z => zPart (zE s) (zDM s r i) L z.2.2 z.1 ∧ zLy z.2.1 z.2.2 4)
    (D := fun z => r30 (bI (!z.1)) (nI (r + 1)) z.2.1) (P := zNone s)
    (by
      intro k i z hi hinv
      obtain ⟨q1, q2⟩ := hinv
      obtain ⟨hA, hN⟩ := a3 i hi
      have hA1 : s (zbp r i) < 5 := hA.1
      have hb := zbp_lt hr5 (show i < 4 by omega)
      obtain ⟨gu, lu⟩ := q2 _ hA1
      obtain ⟨gh, lh⟩ := q2 _ hh5
      have hw : s (zbp r i + 4) = (zbN s r i).toNat := by
        unfold zbN
        have : s (zbp r i + 4) = 0 ∨ s (zbp r i + 4) = 1 := by omega
        rcases this with e | e <;> rw [e] <;> rfl
      have hedge : zE s (zrh s r).1 (s (zbp r i)) (zbN s r i).toNat := ⟨r, i, hr, hi, rfl, rfl, rfl⟩
      have hstep := zPart_step hE q1 (D' := zDM s r (i + 1)) hedge (by
          rintro h' u' w' (e | e | ⟨i', h1, h2, h3, h4⟩)
          · exact Or.inl (Or.inl e)
          · exact Or.inl (Or.inr (Or.inl e))
          · by_cases g : i' = i
            · subst g; exact Or.inr h4
            · exact Or.inl (Or.inr (Or.inr ⟨i', by omega, h2, h3, h4⟩))) (by intro h' u' w' e; exact zDM_E e)
      have hsum : z.2.1 (nI (s (zbp r i))).toNatClampNeg + nI (zbN s r i).toNat = nI (z.2.2 (s (zbp r i)) + (zbN s r i).toNat) := by rw [zi_clamp (by omega), gu, zi_add]
      have hwle : (zbN s r i).toNat ≤ 1 := Bool.toNat_le _
      have eqn : fX12_findsLayers_56 K now r22 r30 (k + 1) (bI (!z.1)) (nI r) (nI (zrh s r).1) (nI i) z.2.1 = if z.2.2 (zrh s r).1 < z.2.2 (s (zbp r i)) + (zbN s r i).toNat then (if z.2.2 (s (zbp r i)) + (zbN s r i).toNat < 5 then fX12_findsLayers_56 K now r22 r30 k 0 (nI r) (nI (zrh s r).1) (nI (i + 1)) (upd z.2.1 (zrh s r).1 (nI (z.2.2 (s (zbp r i)) + (zbN s r i).toNat))) else some (false, upd z.2.1 (zrh s r).1 (nI (z.2.2 (s (zbp r i)) + (zbN s r i).toNat)))) else fX12_findsLayers_56 K now r22 r30 k (bI (!z.1)) (nI r) (nI (zrh s r).1) (nI (i + 1)) z.2.1 := by
        rw [fX12_findsLayers_56, zX12_ruleAtoms h hr5, Option.bind_some, if_neg (by rw [zi_le (by omega) (by omega)]; omega), zX12_ruleAtomAt, Option.bind_some, if_pos (by rw [zi_inB (by omega)]; omega), zi_clamp (by omega), (h _ (show zbp r i < 2780 by omega)).1, if_pos (by rw [zi_inB (by omega)]; exact hA1), Option.bind_some, show (4 : Int32) = nI 4 from rfl, zi_add, if_pos (by rw [zi_inB (by omega)]; exact hb), if_pos (by rw [zi_inB (by omega)]; exact hh5), zi_clamp (show zbp r i + 4 < 2147483648 by omega), (h _ hb).1, hw, hsum, zi_clamp (show (zrh s r).1 < 2147483648 by omega), gh]
        unfold fX12_findsLayers_132
        by_cases c1 : z.2.2 (zrh s r).1 < z.2.2 (s (zbp r i)) + (zbN s r i).toNat
        · rw [if_pos (by rw [zi_lt (by omega) (by omega)]; exact c1), if_pos (by rw [zi_inB (by omega)]; exact hh5), if_pos c1]
          by_cases c2 : z.2.2 (s (zbp r i)) + (zbN s r i).toNat < 5
          · rw [if_pos (by rw [show (5 : Int32) = nI 5 from rfl, zi_lt (by omega) (by omega)]; exact c2), if_pos c2, e1, zi_add]
          · rw [if_neg (by rw [show (5 : Int32) = nI 5 from rfl, zi_lt (by omega) (by omega)]; exact c2), if_neg c2]
        · rw [if_neg (by rw [zi_lt (by omega) (by omega)]; exact c1), if_neg c1, e1, zi_add]
      show (∃ s', _ ∧ fX12_findsLayers_56 K now r22 r30 (k + 1) (bI (!z.1)) (nI r) (nI (zrh s r).1) (nI i) z.2.1 = _) ∨ zNone s (fX12_findsLayers_56 K now r22 r30 (k + 1) (bI (!z.1)) (nI r) (nI (zrh s r).1) (nI i) z.2.1)
      rw [eqn]
      by_cases c1 : z.2.2 (zrh s r).1 < z.2.2 (s (zbp r i)) + (zbN s r i).toNat
      · rw [if_pos c1]
        rw [decide_eq_true c1, Bool.or_true] at hstep
        have hzl : zrl z.2.2 (zrh s r).1 (s (zbp r i)) (zbN s r i).toNat = zup z.2.2 (zrh s r).1 (z.2.2 (s (zbp r i)) + (zbN s r i).toNat) := if_pos c1
        rw [hzl] at hstep
        by_cases c2 : z.2.2 (s (zbp r i)) + (zbN s r i).toNat < 5
        · left
          rw [if_pos c2]
          refine ⟨(true, _, zup z.2.2 (zrh s r).1 (z.2.2 (s (zbp r i)) + (zbN s r i).toNat)), ⟨hstep, ?_⟩, rfl⟩
          intro t ht
          show upd z.2.1 _ _ t = nI (zup z.2.2 _ _ t) ∧ zup z.2.2 _ _ t ≤ 4
          rw [zu_at, zq_at]
          split
          · exact ⟨rfl, by omega⟩
          · exact q2 t ht
        · right
          rw [if_neg c2]
          refine ⟨_, rfl, ?_⟩
          rintro ⟨S, hS⟩
          obtain ⟨M, hM⟩ := zLst_ex hE hS
          have h1 := hstep.2.1 M hM.1 (hL M hM) _ hh5
          have h2 := zLst_4 hE hM hh5
          rw [zq_at, if_pos rfl] at h1
          omega
      · left
        rw [if_neg c1]
        rw [decide_eq_false c1, Bool.or_false] at hstep
        have hzl : zrl z.2.2 (zrh s r).1 (s (zbp r i)) (zbN s r i).toNat = z.2.2 := if_neg c1
        rw [hzl] at hstep
        exact ⟨z, ⟨hstep, q2⟩, rfl⟩)
    (by
      intro k z hinv
      rw [fX12_findsLayers_56, zX12_ruleAtoms h hr5, Option.bind_some, if_pos (by rw [zi_le (by omega) (by omega)]; omega), e1, zi_add])
    (zbn s r) K 0 (b, g, L0) (by omega) ⟨hP, hg⟩ (by omega) with ⟨⟨b1, g1, L1⟩, ⟨hP1, hg1⟩, e2⟩ | hn
  · left
    refine ⟨b1, g1, L1, e2, ?_, hg1⟩
    apply zPart_weak hP1
    rintro h' u' w' (⟨r', i', h1, h2, h3, h4⟩ | ⟨r', h1, h2, h3⟩ | ⟨i', h1, h2, h3, h4⟩)
    · by_cases g : r' = r
      · subst g; exact Or.inr (Or.inr ⟨i', h3, h3, h2, h4⟩)
      · exact Or.inl ⟨r', i', by omega, h2, h3, h4⟩
    · exact h3.elim
    · omega
  · exact Or.inr hn
theorem zX12_fl30 (K : Nat) (hK : 8 < K) {now : Nat → Int32} {s : Nat → Nat} (h : zM now s) (hs : zRul s) (r22 : Int32 → (Nat → Int32) → Option (Bool × (Nat → Int32))) {L : Nat → Nat} {g : Nat → Int32} (hL : ∀ M, zLst (zE s) M → ∀ v, v < 5 → L v ≤ M v) (hg : zLy g L 4) :
    (∃ b' g' L', fX12_findsLayers_30 K now r22 K 1 (nI 0) g = r22 (bI (!b')) g' ∧ zPass (zE s) L L' b' ∧ zLy g' L' 4) ∨ zNone s (fX12_findsLayers_30 K now r22 K 1 (nI 0) g) := by
  have hrn := hs.1
  have h2654 := h 2654 (by omega)
  have c2654 : (2654 : Int32).toNatClampNeg = 2654 := by decide
  have i2654 : inB (2654 : Int32) 2780 = true := by decide
  have e1 : (1 : Int32) = nI 1 := rfl
  rcases z_forDX (F := fun k r (z : Bool × (Nat → Int32) × (Nat → Nat)) => fX12_findsLayers_30 K now r22 k (bI (!z.1)) (nI r) z.2.1) (n := zrn s) (inv := fun r z => zPart (zE s) (zDM s r 0) L z.2.2 z.1 ∧ zLy z.2.1 z.2.2 4)
    (D := fun z => r22 (bI (!z.1)) z.2.1) (P := zNone s)
    (by
      intro k r z hr hinv
      obtain ⟨q1, q2⟩ := hinv
      have hh := zhp_lt (show r < 5 by omega)
      have eqn : fX12_findsLayers_30 K now r22 (k + 1) (bI (!z.1)) (nI r) z.2.1 = fX12_findsLayers_56 K now r22 (fX12_findsLayers_30 K now r22 k) K (bI (!z.1)) (nI r) (nI (zrh s r).1) (nI 0) z.2.1 := by
        rw [fX12_findsLayers_30, if_pos i2654, c2654, h2654.1, if_neg (by rw [zi_le (by omega) (by have : s 2654 = zrn s := rfl; omega)]; have : s 2654 = zrn s := rfl; omega), zX12_headAt, Option.bind_some, if_pos (by rw [zi_inB (by omega)]; omega), zi_clamp (by omega), (h _ (show zhp r < 2780 by omega)).1]
        rfl
      show (∃ s', _ ∧ fX12_findsLayers_30 K now r22 (k + 1) (bI (!z.1)) (nI r) z.2.1 = _) ∨ zNone s (fX12_findsLayers_30 K now r22 (k + 1) (bI (!z.1)) (nI r) z.2.1)
      rw [eqn]
      rcases zX12_fl56 K hK h hs r22 (fX12_findsLayers_30 K now r22 k) hr q1 hL q2 with ⟨b', g', L', e, p1, p2⟩ | hn
      · exact Or.inl ⟨(b', g', L'), ⟨p1, p2⟩, e⟩
      · exact Or.inr hn)
    (by
      intro k z hinv
      rw [fX12_findsLayers_30, if_pos i2654, c2654, h2654.1, if_pos (by rw [zi_le (by have : s 2654 = zrn s := rfl; omega) (by omega)]; exact Nat.le_refl _)])
    (zrn s) K 0 (false, g, L) (by omega) ⟨zPart_0 _ (by
      rintro h' u' w' (⟨r', i', h1, _⟩ | ⟨r', h1, _⟩ | ⟨i', h1, _⟩) <;> omega) L, hg⟩ (by omega) with ⟨⟨b1, g1, L1⟩, ⟨hP1, hg1⟩, e2⟩ | hn
  · left
    refine ⟨b1, g1, L1, e2, ?_, hg1⟩
    apply zPart_pass hP1
    rintro h' u' w' ⟨r, i, h1, h2, h3⟩
    exact Or.inl ⟨r, i, h1, h1, h2, h3⟩
  · exact Or.inr hn
theorem zX12_findsLayers (K : Nat) (hK : 100 < K) {now : Nat → Int32} {s : Nat → Nat} (h : zM now s) (hs : zRul s) (g : Nat → Int32) :
    ∃ b g', fX12_findsLayers K now g = some (b, g') ∧ (b = true ↔ ∃ S, zStb (zE s) S) ∧ ∀ M, zLst (zE s) M → ∀ t, t < 5 → g' t = nI (M t) := by
  have hE := zE_ok hs
  have e1 : (1 : Int32) = nI 1 := rfl
  -- passes
  have L22 : ∀ d (k : Nat) (b : Bool) (g : Nat → Int32) (L : Nat → Nat), (20 - zsum L 5) + (if b = true then 1 else 0) ≤ d → d < k → zLy g L 4 → (∀ M, zLst (zE s) M → ∀ v, v < 5 → L v ≤ M v) → (b = false → zStb (zE s) L) →
      ∃ c g', fX12_findsLayers_22 K now k (bI (!b)) g = some (c, g') ∧ (c = true ↔ ∃ S, zStb (zE s) S) ∧ ∀ M, zLst (zE s) M → ∀ t, t < 5 → g' t = nI (M t) := by
    intro d
    induction d with
    | zero =>
      intro k b g L hd hk hg hL hb
      obtain ⟨k, rfl⟩ : ∃ z, k = z + 1 := ⟨k - 1, by omega⟩
      have hbf : b = false := by
        cases b
        · rfl
        · simp at hd
      subst hbf
      refine ⟨true, g, ?_, ⟨fun _ => ⟨L, hb rfl⟩, fun _ => rfl⟩, ?_⟩
      · rw [fX12_findsLayers_22, if_neg (show ¬ bI (!false) = 0 by decide)]
      · intro M hM t ht
        rw [(hg t ht).1, zLst_of hE hM (hL M hM) (hb rfl) ht]
    | succ d ih =>
      intro k b g L hd hk hg hL hb
      obtain ⟨k, rfl⟩ : ∃ z, k = z + 1 := ⟨k - 1, by omega⟩
      cases b
      · refine ⟨true, g, ?_, ⟨fun _ => ⟨L, hb rfl⟩, fun _ => rfl⟩, ?_⟩
        · rw [fX12_findsLayers_22, if_neg (show ¬ bI (!false) = 0 by decide)]
        · intro M hM t ht
          rw [(hg t ht).1, zLst_of hE hM (hL M hM) (hb rfl) ht]
      · rw [fX12_findsLayers_22, if_pos (show bI (!true) = 0 by decide)]
        rcases zX12_fl30 K (by omega) h hs (fX12_findsLayers_22 K now k) hL hg with ⟨b', g', L', e, p1, p2⟩ | ⟨l, e, hno⟩
        · have e' : fX12_findsLayers_30 K now (fX12_findsLayers_22 K now k) K (1 : Int32) (0 : Int32) g = fX12_findsLayers_22 K now k (bI (!b')) g' := e
          rw [e']
          have hle := zsum_le (f := L) (g := L') (n := 5) (fun v hv => p1.1 v hv)
          have hb20 : zsum L' 5 ≤ 20 := by
            have h4 := zsum_le (f := L') (g := fun _ => 4) (n := 5) (fun v hv => (p2 v hv).2)
            have : zsum (fun _ => 4) 5 = 20 := rfl
            omega
          have hmes : (20 - zsum L' 5) + (if b' = true then 1 else 0) ≤ d := by
            simp only [if_true] at hd
            cases b'
            · simp; omega
            · obtain ⟨v, hv, hlt⟩ := p1.2.2.2.1 rfl
              have := zsum_lt (f := L) (g := L') (n := 5) (i := v) (fun v hv => p1.1 v hv) hv hlt
              simp; omega
          apply ih k b' g' L' hmes (by omega) p2
          · intro M hM; exact p1.2.1 M hM.1 (hL M hM)
          · intro hbf
            obtain ⟨q3, q4⟩ := p1.2.2.1 hbf
            intro h' u' w' e'
            obtain ⟨w1, w2, w3⟩ := hE h' u' w' e'
            rw [q3 u' w2, q3 h' w1]; exact q4 h' u' w' e'
        · have e' : fX12_findsLayers_30 K now (fX12_findsLayers_22 K now k) K (1 : Int32) (0 : Int32) g = some (false, l) := e
          exact ⟨false, l, e', ⟨fun q => absurd q (by decide), fun q => (hno q).elim⟩, fun M hM => (hno ⟨M, hM.1⟩).elim⟩
  unfold fX12_findsLayers
  obtain ⟨r, ⟨q1, q2⟩, e⟩ := z_for (F := fun k t (g : Nat → Int32) => fX12_findsLayers_2 K now k (nI t) g) (n := 5) (inv := fun t g => ∀ u, u < t → g u = nI 0) (post := fun r => (r.1 = true ↔ ∃ S, zStb (zE s) S) ∧ ∀ M, zLst (zE s) M → ∀ t, t < 5 → r.2 t = nI (M t))
    (by
      intro k t g ht hinv
      left
      refine ⟨upd g t (nI 0), ?_, ?_⟩
      · intro u hu
        rw [zu_at]; split
        · rfl
        · exact hinv u (by omega)
      · rw [fX12_findsLayers_2, if_neg (by rw [show (5 : Int32) = nI 5 from rfl, zi_le (by omega) (by omega)]; omega), if_pos (by rw [zi_inB (by omega)]; exact ht), zi_clamp (by omega), e1, zi_add]
        rfl)
    (by
      intro k g hinv
      obtain ⟨c, g', e, h1, h2⟩ := L22 21 K true g (fun _ => 0) (by simp) (by omega) (fun t ht => ⟨hinv t ht, Nat.zero_le _⟩) (fun M hM v _ => Nat.zero_le _) (fun q => absurd q (by decide))
      refine ⟨(c, g'), ⟨h1, h2⟩, ?_⟩
      rw [fX12_findsLayers_2, if_pos (by decide)]
      exact e)
    5 K 0 g (by omega) (fun u hu => absurd hu (Nat.not_lt_zero _)) (by omega)
  exact ⟨r.1, r.2, e, q1, q2⟩
