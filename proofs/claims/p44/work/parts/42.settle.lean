/-! the class's layers -/
def zXr (p2 p3 : Int32) (s : Nat → Nat) (X : Nat → Nat → Nat → Nat → Prop) : Prop := ∀ r, r < zrn s → (nI r = p2 → ∃ a n, zaOK a ∧ p3 = nI (zaC a n) ∧ ∀ h u w, X r h u w ↔ (h = (zrh s r).1 ∧ u = a.1 ∧ w = n.toNat)) ∧ (¬ nI r = p2 → ∀ h u w, ¬ X r h u w)
def zEX (s : Nat → Nat) (X : Nat → Nat → Nat → Nat → Prop) (h u w : Nat) : Prop := zE s h u w ∨ ∃ r, r < zrn s ∧ X r h u w
def zDD (s : Nat → Nat) (X : Nat → Nat → Nat → Nat → Prop) (r i : Nat) (h u w : Nat) : Prop :=
  (∃ r' i', r' < r ∧ r' < zrn s ∧ i' < zbn s r' ∧ h = (zrh s r').1 ∧ u = (zba s r' i').1 ∧ w = (zbN s r' i').toNat) ∨ (∃ r', r' < r ∧ r' < zrn s ∧ X r' h u w) ∨ ∃ i', i' < i ∧ i' < zbn s r ∧ r < zrn s ∧ h = (zrh s r).1 ∧ u = (zba s r i').1 ∧ w = (zbN s r i').toNat
theorem zDD_E {s : Nat → Nat} {X : Nat → Nat → Nat → Nat → Prop} {r i h u w : Nat} (e : zDD s X r i h u w) : zEX s X h u w := by
  rcases e with ⟨r', i', h1, h2, h3, h4⟩ | ⟨r', h1, h2, h3⟩ | ⟨i', h1, h2, h3, h4⟩
  · exact Or.inl ⟨r', i', h2, h3, h4⟩
  · exact Or.inr ⟨r', h2, h3⟩
  · exact Or.inl ⟨r, i', h3, h2, h4⟩
theorem zEX_ok {p2 p3 : Int32} {s : Nat → Nat} {X : Nat → Nat → Nat → Nat → Prop} (hs : zRul s) (hX : zXr p2 p3 s X) : zEd (zEX s X) := by
  rintro h u w (e | ⟨r, hr, e⟩)
  · exact zE_ok hs h u w e
  · by_cases g : nI r = p2
    · obtain ⟨a, n, h1, h2, h3⟩ := (hX r hr).1 g
      obtain ⟨rfl, rfl, rfl⟩ := (h3 h u w).mp e
      exact ⟨(hs.2 r hr).1.1, h1.1, Bool.toNat_le _⟩
    · exact ((hX r hr).2 g h u w e).elim
theorem zbI_or (a b : Bool) : bI a ||| bI b = bI (a || b) := by cases a <;> cases b <;> decide
theorem zX4_settle59 (K : Nat) (hK : 8 < K) {heads : Nat → Int32} {bc : Nat → Nat → Int32} {bs : Nat → Int32} {rt : Int32} {s : Nat → Nat} (hs : zRul s) (hR : zRc heads bc bs rt s) {p2 p3 : Int32} {X : Nat → Nat → Nat → Nat → Prop} (hX : zXr p2 p3 s X) (r11 : Int32 → Int32 → (Nat → Int32) → Option (Bool × (Nat → Int32))) (r28 : Int32 → Int32 → Int32 → (Nat → Int32) → Option (Bool × (Nat → Int32))) (x5 : Int32) {r : Nat} (hr : r < zrn s) {L L0 : Nat → Nat} {b : Bool} {g : Nat → Int32} {c : Nat} (hc : c < 100000) (hP : zPart (zEX s X) (zDD s X r 0) L L0 b) (hg : zLy g L0 c) :
    ∃ b' g' L', fX4_settle_59 K heads bc bs rt p2 p3 r11 r28 K (bI b) x5 (nI r) r (nI (zaC (zrh s r) false)) (nI 0) g = r28 (bI b') x5 (nI (r + 1)) g' ∧ zPart (zEX s X) (zDD s X (r + 1) 0) L L' b' ∧ zLy g' L' (c + 6) := by
  have hE := zEX_ok hs hX
  obtain ⟨a1, a2, a3⟩ := hs.2 r hr
  obtain ⟨c1, c2, c3⟩ := hR.2 r hr
  have hrn := hs.1
  have hr5 : r < 5 := by omega
  obtain ⟨⟨b1, g1, L1⟩, ⟨hP1, hg1⟩, e1⟩ := z_forD (F := fun k i (z : Bool × (Nat → Int32) × (Nat → Nat)) => fX4_settle_59 K heads bc bs rt p2 p3 r11 r28 k (bI z.1) x5 (nI r) r (nI (zaC (zrh s r) false)) (nI i) z.2.1) (n := zbn s r) (inv := fun i z => zPart (zEX s X) (zDD s X r i) L z.2.2 z.1 ∧ zLy z.2.1 z.2.2 (c + i))
    (D := fun z => if nI r = p2 then ((fX4_raise (nI (zaC (zrh s r) false)) p3 z.2.1).bind fun q105 => if (bI q105.1) = 0 then (fX4_settle_115 K heads bc bs rt p2 p3 r11 r28 x5 (nI r) (bI z.1) q105.2) else (fX4_settle_116 K heads bc bs rt p2 p3 r11 r28 x5 (nI r) (bI z.1) (1 : Int32) q105.2)) else (fX4_settle_115 K heads bc bs rt p2 p3 r11 r28 x5 (nI r) (bI z.1) z.2.1))
    (by
      intro k i z hi hinv
      obtain ⟨q1, q2⟩ := hinv
      have hA := (a3 i hi).1
      obtain ⟨g', e, hg'⟩ := zX4_raise (a := zrh s r) (b := zba s r i) a1 hA (zbN s r i) q2 (by omega)
      refine ⟨(z.1 || decide (z.2.2 (zrh s r).1 < z.2.2 (zba s r i).1 + (zbN s r i).toNat), g', zrl z.2.2 (zrh s r).1 (zba s r i).1 (zbN s r i).toNat), ⟨?_, hg'⟩, ?_⟩
      · apply zPart_step hE q1
        · exact Or.inl ⟨r, i, hr, hi, rfl, rfl, rfl⟩
        · rintro h' u' w' (e | e | ⟨i', h1, h2, h3, h4⟩)
          · exact Or.inl (Or.inl e)
          · exact Or.inl (Or.inr (Or.inl e))
          · by_cases g : i' = i
            · subst g; exact Or.inr h4
            · exact Or.inl (Or.inr (Or.inr ⟨i', by omega, h2, h3, h4⟩))
        · intro h' u' w' e; exact zDD_E e
      · rw [fX4_settle_59, if_pos hr5, if_neg (by rw [c2, zi_le (by omega) (by omega)]; omega), zX2_at c3 hi, Option.bind_some, e, Option.bind_some, zbI_or, show (1 : Int32) = nI 1 from rfl, zi_add])
    (by
      intro k z hinv
      rw [fX4_settle_59, if_pos hr5, if_pos (by rw [c2, zi_le (by omega) (by omega)]; omega)])
    (zbn s r) K 0 (b, g, L0) (by omega) ⟨hP, hg⟩ (by omega)
  rw [e1]
  dsimp only
  have hweak : ∀ h u w, zDD s X (r + 1) 0 h u w → zDD s X r (zbn s r) h u w ∨ X r h u w := by
    rintro h u w (⟨r', i', h1, h2, h3, h4⟩ | ⟨r', h1, h2, h3⟩ | ⟨i', h1, h2, h3, h4⟩)
    · by_cases g : r' = r
      · subst g; exact Or.inl (Or.inr (Or.inr ⟨i', h3, h3, h2, h4⟩))
      · exact Or.inl (Or.inl ⟨r', i', by omega, h2, h3, h4⟩)
    · by_cases g : r' = r
      · subst g; exact Or.inr h3
      · exact Or.inl (Or.inr (Or.inl ⟨r', by omega, h2, h3⟩))
    · omega
  have e1' : (1 : Int32) = nI 1 := rfl
  by_cases gp : nI r = p2
  · rw [if_pos gp]
    obtain ⟨a, n, x1, x2, x3⟩ := (hX r hr).1 gp
    obtain ⟨g2, e2, hg2⟩ := zX4_raise (a := zrh s r) (b := a) a1 x1 n hg1 (by omega)
    rw [x2, e2, Option.bind_some]
    refine ⟨b1 || decide (L1 (zrh s r).1 < L1 a.1 + n.toNat), g2, zrl L1 (zrh s r).1 a.1 n.toNat, ?_, ?_, ?_⟩
    · dsimp only
      unfold fX4_settle_115 fX4_settle_116
      cases decide (L1 (zrh s r).1 < L1 a.1 + n.toNat)
      · rw [if_pos (show bI false = 0 from rfl), show (0 : Int32) = bI false from rfl, zbI_or, e1', zi_add]
      · rw [if_neg (show ¬ bI true = 0 by decide), show (1 : Int32) = bI true from rfl, zbI_or, show bI true = nI 1 from rfl, zi_add]
    · apply zPart_step hE hP1
      · exact Or.inr ⟨r, hr, (x3 _ _ _).mpr ⟨rfl, rfl, rfl⟩⟩
      · intro h' u' w' e
        rcases hweak h' u' w' e with q | q
        · exact Or.inl q
        · exact Or.inr ((x3 _ _ _).mp q)
      · intro h' u' w' e; exact zDD_E e
    · intro t ht; obtain ⟨q1, q2⟩ := hg2 t ht; exact ⟨q1, Nat.le_trans q2 (by omega)⟩
  · rw [if_neg gp]
    refine ⟨b1, g1, L1, ?_, ?_, ?_⟩
    · unfold fX4_settle_115 fX4_settle_116
      rw [show (0 : Int32) = bI false from rfl, zbI_or, Bool.or_false, e1', zi_add]
    · apply zPart_weak hP1
      intro h u w e
      rcases hweak h u w e with q | q
      · exact q
      · exact ((hX r hr).2 gp h u w q).elim
    · intro t ht; obtain ⟨q1, q2⟩ := hg1 t ht; exact ⟨q1, Nat.le_trans q2 (by omega)⟩
theorem zX4_settle28 (K : Nat) (hK : 8 < K) {heads : Nat → Int32} {bc : Nat → Nat → Int32} {bs : Nat → Int32} {rt : Int32} {s : Nat → Nat} (hs : zRul s) (hR : zRc heads bc bs rt s) {p2 p3 : Int32} {X : Nat → Nat → Nat → Nat → Prop} (hX : zXr p2 p3 s X) (r11 : Int32 → Int32 → (Nat → Int32) → Option (Bool × (Nat → Int32))) (x5 : Int32) {L : Nat → Nat} {g : Nat → Int32} {c : Nat} (hc : c < 10000) (hg : zLy g L c) :
    ∃ b' g' L', fX4_settle_28 K heads bc bs rt p2 p3 r11 K 0 x5 (nI 0) g = r11 (bI b') (x5 + 1) g' ∧ zPass (zEX s X) L L' b' ∧ zLy g' L' (c + 30) := by
  have hrn := hs.1
  obtain ⟨⟨b1, g1, L1⟩, ⟨hP1, hg1⟩, e1⟩ := z_forD (F := fun k r (z : Bool × (Nat → Int32) × (Nat → Nat)) => fX4_settle_28 K heads bc bs rt p2 p3 r11 k (bI z.1) x5 (nI r) z.2.1) (n := zrn s) (inv := fun r z => zPart (zEX s X) (zDD s X r 0) L z.2.2 z.1 ∧ zLy z.2.1 z.2.2 (c + 6 * r))
    (D := fun z => r11 (bI z.1) (x5 + 1) z.2.1)
    (by
      intro k r z hr hinv
      obtain ⟨q1, q2⟩ := hinv
      obtain ⟨c1, c2, c3⟩ := hR.2 r hr
      obtain ⟨b', g', L', e, h1, h2⟩ := zX4_settle59 K hK hs hR hX r11 (fX4_settle_28 K heads bc bs rt p2 p3 r11 k) x5 hr (by omega) q1 q2
      refine ⟨(b', g', L'), ⟨h1, by rw [show c + 6 * (r + 1) = c + 6 * r + 6 by omega]; exact h2⟩, ?_⟩
      rw [fX4_settle_28, hR.1, if_neg (by rw [zi_le (by omega) (by omega)]; omega), zX9_body (by omega), Option.bind_some, zX6_at heads (show r < 5 by omega) (by omega), Option.bind_some, c1]
      have := e
      rw [hR.1] at this
      exact this)
    (by
      intro k z hinv
      rw [fX4_settle_28, hR.1, if_pos (by rw [zi_le (by omega) (by omega)]; omega)])
    (zrn s) K 0 (false, g, L) (by omega) ⟨zPart_0 _ (by
      rintro h u w (⟨r', i', h1, _⟩ | ⟨r', h1, _⟩ | ⟨i', h1, _⟩) <;> omega) L, hg⟩ (by omega)
  refine ⟨b1, g1, L1, e1, ?_, ?_⟩
  · apply zPart_pass hP1
    rintro h u w (⟨r, i, h1, h2, h3⟩ | ⟨r, h1, h2⟩)
    · exact Or.inl ⟨r, i, h1, h1, h2, h3⟩
    · exact Or.inr (Or.inl ⟨r, h1, h1, h2⟩)
  · intro t ht; obtain ⟨q1, q2⟩ := hg1 t ht; exact ⟨q1, Nat.le_trans q2 (by omega)⟩
/-- what settle tells: whether there are layers, and the least ones -/
theorem zX4_settle (K : Nat) (hK : 8 < K) {heads : Nat → Int32} {bc : Nat → Nat → Int32} {bs : Nat → Int32} {rt : Int32} {s : Nat → Nat} (hs : zRul s) (hR : zRc heads bc bs rt s) {p2 p3 : Int32} {X : Nat → Nat → Nat → Nat → Prop} (hX : zXr p2 p3 s X) (g : Nat → Int32) :
    ∃ b g', fX4_settle K heads bc bs rt p2 p3 g = some (b, g') ∧ (b = true ↔ ∃ S, zStb (zEX s X) S) ∧ ∀ M, zLst (zEX s X) M → ∀ t, t < 5 → g' t = nI (M t) := by
  have hE := zEX_ok hs hX
  obtain ⟨g0, e0, hg0⟩ := zX6_fill K 5 (by omega) (by omega) (0 : Int32) g
  unfold fX4_settle
  rw [e0, Option.bind_some]
  have hly0 : zLy g0 (fun _ => 0) 0 := by
    intro t ht
    rw [hg0, if_pos (by omega)]; exact ⟨rfl, Nat.le_refl 0⟩
  -- the state: raised, the layers, and how many are final where there are layers at all
  have main := z_for (F := fun k p (z : Bool × (Nat → Int32) × (Nat → Nat)) => fX4_settle_11 K heads bc bs rt p2 p3 k (bI z.1) (nI p) z.2.1) (n := 6)
    (inv := fun p z => p ≤ 5 ∧ zLy z.2.1 z.2.2 (30 * p) ∧ (∀ M, zLst (zEX s X) M → (∀ v, v < 5 → z.2.2 v ≤ M v) ∧ (5 ≤ zfin M z.2.2 ∨ p + 1 ≤ zfin M z.2.2) ∧ (p = 5 → z.1 = false)) ∧ (z.1 = false → ∀ h u w, zEX s X h u w → z.2.2 u + w ≤ z.2.2 h))
    (post := fun r => (r.1 = true ↔ ∃ S, zStb (zEX s X) S) ∧ ∀ M, zLst (zEX s X) M → ∀ t, t < 5 → r.2 t = nI (M t))
    (by
      intro k p z hp hinv
      obtain ⟨h1, h2, h3, h4⟩ := hinv
      by_cases hz : z.1 = false
      · right
        have hst : zStb (zEX s X) z.2.2 := h4 hz
        refine ⟨(true, z.2.1), ⟨⟨fun _ => ⟨_, hst⟩, fun _ => rfl⟩, ?_⟩, ?_⟩
        · intro M hM t ht
          show z.2.1 t = _
          rw [(h2 t ht).1, zLst_of hE hM (h3 M hM).1 hst ht]
        · rw [fX4_settle_11, if_pos (by rw [hz]; rfl)]
          unfold fX4_settle_131
          rw [if_pos (by rw [hz]; rfl)]
      · have hz1 : z.1 = true := by simpa using hz
        have hne : ¬ bI z.1 = (0 : Int32) := by rw [hz1]; decide
        by_cases h5 : p = 5
        · right
          have hno : ¬ ∃ S, zStb (zEX s X) S := by
            rintro ⟨S, hS⟩
            obtain ⟨M, hM⟩ := zLst_ex hE hS
            exact hz ((h3 M hM).2.2 h5)
          refine ⟨(false, z.2.1), ⟨⟨fun q => absurd (show false = true from q) (by decide), fun q => (hno q).elim⟩, fun M hM => (hno ⟨M, hM.1⟩).elim⟩, ?_⟩
          rw [fX4_settle_11, if_neg hne, if_pos (by rw [h5]; decide)]
          unfold fX4_settle_131
          rw [if_neg hne]
        · left
          obtain ⟨b', g', L', e, q1, q2⟩ := zX4_settle28 K hK hs hR hX (fX4_settle_11 K heads bc bs rt p2 p3 k) (nI p) (by omega) h2
          refine ⟨(b', g', L'), ⟨by omega, by rw [show 30 * (p + 1) = 30 * p + 30 by omega]; exact q2, ?_, ?_⟩, ?_⟩
          · intro M hM
            obtain ⟨a1, a2, a3⟩ := h3 M hM
            have hup := zfin_up hE hM a1 q1
            have hle := q1.2.1 M hM.1 a1
            refine ⟨hle, by show 5 ≤ zfin M L' ∨ _ ≤ zfin M L'; omega, ?_⟩
            intro hp5
            have h45 : 5 ≤ zfin M z.2.2 := by omega
            show b' = false
            rw [← Bool.not_eq_true]
            intro hb
            obtain ⟨v, hv, hlt⟩ := q1.2.2.2.1 hb
            have := zfin_5 h45 hv
            have := hle v hv
            omega
          · intro hb h u w e
            have hb' : b' = false := hb
            obtain ⟨q3, q4⟩ := q1.2.2.1 hb'
            obtain ⟨w1, w2, w3⟩ := hE h u w e
            show L' u + w ≤ L' h
            rw [q3 u w2, q3 h w1]; exact q4 h u w e
          · rw [fX4_settle_11, if_neg hne, if_neg (by rw [show (5 : Int32) = nI 5 from rfl, zi_le (by omega) (by omega)]; omega)]
            have e' := e
            rw [show (1 : Int32) = nI 1 from rfl, zi_add] at e'
            exact e')
    (by
      intro k z hinv
      omega)
    6 K 0 (true, g0, fun _ => 0) (by omega) ⟨by omega, hly0, fun M hM => ⟨fun v _ => Nat.zero_le _, Or.inr (zfin_0 hE hM), fun q => by omega⟩, fun q => absurd (show true = false from q) (by decide)⟩ (by omega)
  obtain ⟨⟨b, g'⟩, ⟨h1, h2⟩, e⟩ := main
  exact ⟨b, g', e, h1, h2⟩
