/-! rules: what is told of them, and the edges between tables -/
theorem z_forDX {σ ρ : Type} {F : Nat → Nat → σ → Option ρ} {n : Nat} {inv : Nat → σ → Prop} {D : σ → Option ρ} {P : Option ρ → Prop}
    (step : ∀ k i s, i < n → inv i s → (∃ s', inv (i + 1) s' ∧ F (k + 1) i s = F k (i + 1) s') ∨ P (F (k + 1) i s))
    (done : ∀ k s, inv n s → F (k + 1) n s = D s) :
    ∀ d K i s, i + d = n → inv i s → n < K + i → (∃ s', inv n s' ∧ F K i s = D s') ∨ P (F K i s) := by
  intro d
  induction d with
  | zero =>
    intro K i s hi hv hK
    obtain ⟨k, rfl⟩ : ∃ k, K = k + 1 := ⟨K - 1, by omega⟩
    have : i = n := by omega
    subst this
    exact Or.inl ⟨s, hv, done k s hv⟩
  | succ d ih =>
    intro K i s hi hv hK
    obtain ⟨k, rfl⟩ : ∃ k, K = k + 1 := ⟨K - 1, by omega⟩
    rcases step k i s (by omega) hv with ⟨s', hs, e⟩ | h
    · rw [e]; exact ih k (i + 1) s' (by omega) hs (by omega)
    · exact Or.inr h
theorem z_forD {σ ρ : Type} {F : Nat → Nat → σ → Option ρ} {n : Nat} {inv : Nat → σ → Prop} {D : σ → Option ρ}
    (step : ∀ k i s, i < n → inv i s → ∃ s', inv (i + 1) s' ∧ F (k + 1) i s = F k (i + 1) s')
    (done : ∀ k s, inv n s → F (k + 1) n s = D s) :
    ∀ d K i s, i + d = n → inv i s → n < K + i → ∃ s', inv n s' ∧ F K i s = D s' := by
  intro d K i s h1 h2 h3
  rcases z_forDX (P := fun _ => False) (fun k i s hi hv => Or.inl (step k i s hi hv)) done d K i s h1 h2 h3 with h | h
  · exact h
  · exact h.elim
def zrn (s : Nat → Nat) : Nat := s 2654
def zhp (r : Nat) : Nat := 2655 + 25 * r
def zrh (s : Nat → Nat) (r : Nat) : zA := zat s (zhp r)
def zbn (s : Nat → Nat) (r : Nat) : Nat := s (zhp r + 4)
def zbp (r i : Nat) : Nat := zhp r + 5 + 5 * i
def zba (s : Nat → Nat) (r i : Nat) : zA := zat s (zbp r i)
def zbN (s : Nat → Nat) (r i : Nat) : Bool := decide (s (zbp r i + 4) = 1)
/-- the rules are as told -/
def zRul (s : Nat → Nat) : Prop := zrn s ≤ 5 ∧ ∀ r, r < zrn s → zaOK (zrh s r) ∧ zbn s r ≤ 4 ∧ ∀ i, i < zbn s r → zaOK (zba s r i) ∧ s (zbp r i + 4) ≤ 1
/-- the class's rules are these -/
def zRc (heads : Nat → Int32) (bc : Nat → Nat → Int32) (bs : Nat → Int32) (rt : Int32) (s : Nat → Nat) : Prop :=
  rt = nI (zrn s) ∧ ∀ r, r < zrn s → heads r = nI (zaC (zrh s r) false) ∧ bs r = nI (zbn s r) ∧ zL (bc r) (zbn s r) (zba s r) (zbN s r)
def zE (s : Nat → Nat) (h u w : Nat) : Prop := ∃ r i, r < zrn s ∧ i < zbn s r ∧ h = (zrh s r).1 ∧ u = (zba s r i).1 ∧ w = (zbN s r i).toNat
theorem zE_ok {s : Nat → Nat} (hs : zRul s) : zEd (zE s) := by
  rintro h u w ⟨r, i, h1, h2, rfl, rfl, rfl⟩
  obtain ⟨a1, a2, a3⟩ := hs.2 r h1
  exact ⟨a1.1, (a3 i h2).1.1, Bool.toNat_le _⟩
theorem zX9_body {r : Nat} (hr : r < 5) : fX9_body (nI r) = some r := by
  unfold fX9_body
  rw [if_neg (nI_pos (by omega)), if_neg (by rw [show (5 : Int32) = nI 5 from rfl, zi_le (by omega) (by omega)]; omega), if_pos (by rw [zi_inB (by omega)]; exact hr), zi_clamp (by omega)]
theorem zX9_query {r : Nat} (hr : r < 4) : fX9_query (nI r) = some r := by
  unfold fX9_query
  rw [if_neg (nI_pos (by omega)), if_neg (by rw [show (4 : Int32) = nI 4 from rfl, zi_le (by omega) (by omega)]; omega), if_pos (by rw [zi_inB (by omega)]; exact hr), zi_clamp (by omega)]
def zrl (L : Nat → Nat) (h u w : Nat) : Nat → Nat := if L h < L u + w then zup L h (L u + w) else L
/-- a part of a pass -/
def zPart (Ed D : Nat → Nat → Nat → Prop) (L L' : Nat → Nat) (b : Bool) : Prop :=
  (∀ v, v < 5 → L v ≤ L' v) ∧ (∀ S, zStb Ed S → (∀ v, v < 5 → L v ≤ S v) → ∀ v, v < 5 → L' v ≤ S v) ∧ (b = false → (∀ v, v < 5 → L' v = L v) ∧ ∀ h u w, D h u w → L u + w ≤ L h) ∧ (b = true → ∃ v, v < 5 ∧ L v < L' v) ∧ ∀ h u w, D h u w → L u + w ≤ L' h
theorem zPart_0 (Ed : Nat → Nat → Nat → Prop) {D : Nat → Nat → Nat → Prop} (hD : ∀ h u w, ¬ D h u w) (L : Nat → Nat) : zPart Ed D L L false :=
  ⟨fun _ _ => Nat.le_refl _, fun _ _ h => h, fun _ => ⟨fun _ _ => rfl, fun h u w e => (hD h u w e).elim⟩, fun h => absurd h (by decide), fun h u w e => (hD h u w e).elim⟩
theorem zPart_step {Ed D D' : Nat → Nat → Nat → Prop} (hE : zEd Ed) {L L' : Nat → Nat} {b : Bool} (hP : zPart Ed D L L' b) {h u w : Nat} (he : Ed h u w) (hD : ∀ h' u' w', D' h' u' w' → D h' u' w' ∨ (h' = h ∧ u' = u ∧ w' = w)) (hDE : ∀ h' u' w', D h' u' w' → Ed h' u' w') :
    zPart Ed D' L (zrl L' h u w) (b || decide (L' h < L' u + w)) := by
  obtain ⟨p1, p2, p3, p4, p5⟩ := hP
  obtain ⟨h1, h2, h3⟩ := hE h u w he
  have hmono : ∀ v, v < 5 → L' v ≤ zrl L' h u w v := by
    intro v _
    unfold zrl
    split
    · rw [zq_at]; split
      · rename_i g e; rw [e]; omega
      · exact Nat.le_refl _
    · exact Nat.le_refl _
  refine ⟨fun v hv => Nat.le_trans (p1 v hv) (hmono v hv), ?_, ?_, ?_, ?_⟩
  · intro S hS hL v hv
    have hl := p2 S hS hL
    unfold zrl
    split
    · rw [zq_at]; split
      · rename_i g e; rw [e]
        have := hS h u w he
        have := hl u h2
        omega
      · exact hl v hv
    · exact hl v hv
  · intro hb
    rw [Bool.or_eq_false_iff] at hb
    obtain ⟨q1, q2⟩ := p3 hb.1
    have g : ¬ L' h < L' u + w := of_decide_eq_false hb.2
    refine ⟨fun v hv => by unfold zrl; rw [if_neg g]; exact q1 v hv, ?_⟩
    intro h' u' w' e
    rcases hD h' u' w' e with c | ⟨rfl, rfl, rfl⟩
    · exact q2 _ _ _ c
    · have := q1 _ h1; have := q1 _ h2; omega
  · intro hb
    rw [Bool.or_eq_true] at hb
    rcases hb with c | c
    · obtain ⟨v, hv, hlt⟩ := p4 c
      exact ⟨v, hv, Nat.lt_of_lt_of_le hlt (hmono v hv)⟩
    · have g : L' h < L' u + w := of_decide_eq_true c
      refine ⟨h, h1, ?_⟩
      have := p1 h h1
      unfold zrl; rw [if_pos g, zq_at, if_pos rfl]; omega
  · intro h' u' w' e
    rcases hD h' u' w' e with c | ⟨rfl, rfl, rfl⟩
    · have := p5 _ _ _ c
      have := hmono h' (hE _ _ _ (hDE _ _ _ c)).1
      omega
    · have a := p1 _ h2
      unfold zrl
      split
      · rw [zq_at, if_pos rfl]; omega
      · omega
theorem zPart_pass {Ed D : Nat → Nat → Nat → Prop} {L L' : Nat → Nat} {b : Bool} (hP : zPart Ed D L L' b) (hD : ∀ h u w, Ed h u w → D h u w) : zPass Ed L L' b := by
  obtain ⟨p1, p2, p3, p4, p5⟩ := hP
  exact ⟨p1, p2, fun hb => ⟨(p3 hb).1, fun h u w e => (p3 hb).2 h u w (hD h u w e)⟩, p4, fun h u w e => p5 h u w (hD h u w e)⟩
theorem zPart_weak {Ed D D' : Nat → Nat → Nat → Prop} {L L' : Nat → Nat} {b : Bool} (hP : zPart Ed D L L' b) (hD : ∀ h u w, D' h u w → D h u w) : zPart Ed D' L L' b := by
  obtain ⟨p1, p2, p3, p4, p5⟩ := hP
  exact ⟨p1, p2, fun hb => ⟨(p3 hb).1, fun h u w e => (p3 hb).2 h u w (hD h u w e)⟩, p4, fun h u w e => p5 h u w (hD h u w e)⟩
/-- layers in an array -/
def zLy (g : Nat → Int32) (L : Nat → Nat) (c : Nat) : Prop := ∀ t, t < 5 → g t = nI (L t) ∧ L t ≤ c
theorem zX4_raise {a b : zA} (ha : zaOK a) (hb : zaOK b) (n : Bool) {g : Nat → Int32} {L : Nat → Nat} {c : Nat} (hg : zLy g L c) (hc : c < 1000000) :
    ∃ g', fX4_raise (nI (zaC a false)) (nI (zaC b n)) g = some (decide (L a.1 < L b.1 + n.toNat), g') ∧ zLy g' (zrl L a.1 b.1 n.toNat) (c + 1) := by
  have ha1 := ha.1
  have hb1 := hb.1
  obtain ⟨ga, la⟩ := hg _ ha1
  obtain ⟨gb, lb⟩ := hg _ hb1
  have hn : n.toNat ≤ 1 := Bool.toNat_le n
  have e1 : (if bI n = (0 : Int32) then fX4_raise_20 (nI (zaC a false)) (nI (zaC b n)) (nI (L b.1)) (0 : Int32) g else fX4_raise_20 (nI (zaC a false)) (nI (zaC b n)) (nI (L b.1)) (1 : Int32) g) = fX4_raise_20 (nI (zaC a false)) (nI (zaC b n)) (nI (L b.1)) (nI n.toNat) g := by cases n <;> rfl
  unfold fX4_raise
  rw [zX1_table hb, Option.bind_some, zX6_at g hb1 (by omega), Option.bind_some, zX1_isNot hb, Option.bind_some, gb, e1]
  unfold fX4_raise_20
  rw [zX1_table ha, Option.bind_some, zX6_at g ha1 (by omega), Option.bind_some, ga, zi_add]
  by_cases h : L a.1 < L b.1 + n.toNat
  · rw [if_pos (by rw [zi_lt (by omega) (by omega)]; exact h), Option.bind_some, zX6_put _ g ha1 (by omega), Option.bind_some, decide_eq_true h]
    refine ⟨_, rfl, ?_⟩
    intro t ht
    unfold zrl
    rw [if_pos h, zu_at, zq_at]
    split
    · exact ⟨rfl, by omega⟩
    · obtain ⟨q1, q2⟩ := hg t ht; exact ⟨q1, by omega⟩
  · rw [if_neg (by rw [zi_lt (by omega) (by omega)]; exact h), decide_eq_false h]
    refine ⟨_, rfl, ?_⟩
    intro t ht
    unfold zrl
    rw [if_neg h]
    obtain ⟨q1, q2⟩ := hg t ht; exact ⟨q1, by omega⟩
