/-! taking a query apart: the order of the steps does not matter -/
def zm1 (c : Nat → Nat) (x : Nat) : Nat → Nat := fun y => c y - (if y = x then 1 else 0)
def zp1 (c : Nat → Nat) (x : Nat) : Nat → Nat := fun y => c y + (if y = x then 1 else 0)
def zsub (x y : Nat) : Prop := ∀ w, x.testBit w = true → y.testBit w = true
def zco (c : Nat → Nat) (x : Nat) : Prop := x = 0 ∨ 2 ≤ c x ∨ ∃ y, y ≠ x ∧ zsub x y ∧ 1 ≤ c y
def zVs (c : Nat → Nat) (x v : Nat) : Prop := x.testBit v = true ∧ c x = 1 ∧ ∀ y, y ≠ x → y.testBit v = true → c y = 0
def zAs (c : Nat → Nat) (x : Nat) : Prop := 1 ≤ c x ∧ zco c x
def zyS (c d : Nat → Nat) : Prop := (∃ x v, zVs c x v ∧ d = zp1 (zm1 c x) (x ^^^ 2 ^ v)) ∨ ∃ x, zAs c x ∧ d = zm1 c x
theorem zm1_ne {c : Nat → Nat} {x y : Nat} (h : y ≠ x) : zm1 c x y = c y := by unfold zm1; rw [if_neg h]; rfl
theorem zm1_eq (c : Nat → Nat) (x : Nat) : zm1 c x x = c x - 1 := by unfold zm1; rw [if_pos rfl]
theorem zp1_ne {c : Nat → Nat} {x y : Nat} (h : y ≠ x) : zp1 c x y = c y := by unfold zp1; rw [if_neg h]; rfl
theorem zp1_eq (c : Nat → Nat) (x : Nat) : zp1 c x x = c x + 1 := by unfold zp1; rw [if_pos rfl]
theorem zp1_ge (c : Nat → Nat) (x y : Nat) : c y ≤ zp1 c x y := Nat.le_add_right _ _
theorem zx_bit (x v w : Nat) : (x ^^^ 2 ^ v).testBit w = (x.testBit w != decide (v = w)) := by
  rw [Nat.testBit_xor, Nat.testBit_two_pow]
theorem zx_same (x v : Nat) (h : x.testBit v = true) : (x ^^^ 2 ^ v).testBit v = false := by
  rw [zx_bit, h, decide_eq_true rfl]; rfl
theorem zx_other (x : Nat) {v w : Nat} (h : v ≠ w) : (x ^^^ 2 ^ v).testBit w = x.testBit w := by
  rw [zx_bit, decide_eq_false h]; cases x.testBit w <;> rfl
theorem zx_ne {x v : Nat} (h : x.testBit v = true) : x ^^^ 2 ^ v ≠ x := by
  intro e
  have := zx_same x v h
  rw [e, h] at this; exact absurd this (by decide)
theorem zsub_antisymm {x y : Nat} (h : zsub x y) (g : zsub y x) : x = y := by
  apply Nat.eq_of_testBit_eq
  intro i
  cases e : x.testBit i
  · cases e2 : y.testBit i
    · rfl
    · have := g i e2; rw [e] at this; exact absurd this (by decide)
  · rw [h i e]
theorem zsub_0 {x : Nat} (h : zsub x 0) : x = 0 := zsub_antisymm h (fun w g => by rw [Nat.zero_testBit] at g; exact absurd g (by decide))
/-- two atoms that may go -/
theorem zco_A {c : Nat → Nat} {x y : Nat} (hxy : y ≠ x) (hx : zco c x) (hy : zco c y) : zco (zm1 c x) y := by
  rcases hy with h | h | ⟨z, h1, h2, h3⟩
  · exact Or.inl h
  · exact Or.inr (Or.inl (by rw [zm1_ne hxy]; exact h))
  · by_cases e : z = x
    · subst e
      rcases hx with g | g | ⟨u, g1, g2, g3⟩
      · subst g
        exact Or.inl (zsub_0 h2)
      · refine Or.inr (Or.inr ⟨z, h1, h2, ?_⟩)
        rw [zm1_eq]; omega
      · by_cases e2 : u = y
        · subst e2
          exact absurd (zsub_antisymm h2 g2) hxy
        · refine Or.inr (Or.inr ⟨u, e2, fun w q => g2 w (h2 w q), ?_⟩)
          rw [zm1_ne g1]; exact g3
    · exact Or.inr (Or.inr ⟨z, h1, h2, by rw [zm1_ne e]; exact h3⟩)
theorem zyS_AA {c : Nat → Nat} {x y : Nat} (hx : zAs c x) (hy : zAs c y) : zm1 c x = zm1 c y ∨ ∃ r, zyS (zm1 c x) r ∧ zyS (zm1 c y) r := by
  by_cases e : y = x
  · exact Or.inl (by rw [e])
  · refine Or.inr ⟨zm1 (zm1 c x) y, Or.inr ⟨y, ⟨by rw [zm1_ne e]; exact hy.1, zco_A e hx.2 hy.2⟩, rfl⟩, Or.inr ⟨x, ⟨by rw [zm1_ne (Ne.symm e)]; exact hx.1, zco_A (Ne.symm e) hy.2 hx.2⟩, ?_⟩⟩
    funext z
    unfold zm1
    omega
theorem zyS_VA {c : Nat → Nat} {x v y : Nat} (hx : zVs c x v) (hy : zAs c y) : ∃ r, zyS (zp1 (zm1 c x) (x ^^^ 2 ^ v)) r ∧ zyS (zm1 c y) r := by
  obtain ⟨h1, h2, h3⟩ := hx
  have hne : y ≠ x := by
    intro e
    subst e
    rcases hy.2 with g | g | ⟨z, g1, g2, g3⟩
    · subst g; rw [Nat.zero_testBit] at h1; exact absurd h1 (by decide)
    · omega
    · have := h3 z g1 (g2 v h1); omega
  have hyv : y.testBit v = false := by
    rw [← Bool.not_eq_true]
    intro e
    have := h3 y hne e
    have := hy.1; omega
  refine ⟨zm1 (zp1 (zm1 c x) (x ^^^ 2 ^ v)) y, Or.inr ⟨y, ⟨?_, ?_⟩, rfl⟩, Or.inl ⟨x, v, ⟨h1, ?_, ?_⟩, ?_⟩⟩
  · have := zp1_ge (zm1 c x) (x ^^^ 2 ^ v) y
    rw [zm1_ne hne] at this
    have := hy.1; omega
  · rcases hy.2 with g | g | ⟨z, g1, g2, g3⟩
    · exact Or.inl g
    · have := zp1_ge (zm1 c x) (x ^^^ 2 ^ v) y
      rw [zm1_ne hne] at this
      exact Or.inr (Or.inl (by omega))
    · by_cases e : z = x
      · subst e
        have hs : zsub y (z ^^^ 2 ^ v) := by
          intro w q
          have hw : v ≠ w := by
            intro e; subst e; rw [hyv] at q; exact absurd q (by decide)
          rw [zx_other z hw]
          exact g2 w q
        by_cases e2 : z ^^^ 2 ^ v = y
        · refine Or.inr (Or.inl ?_)
          rw [e2, zp1_eq, zm1_ne hne]
          have := hy.1; omega
        · refine Or.inr (Or.inr ⟨z ^^^ 2 ^ v, e2, hs, ?_⟩)
          rw [zp1_eq]; omega
      · refine Or.inr (Or.inr ⟨z, g1, g2, ?_⟩)
        have := zp1_ge (zm1 c x) (x ^^^ 2 ^ v) z
        rw [zm1_ne e] at this; omega
  · rw [zm1_ne (Ne.symm hne)]; exact h2
  · intro z q1 q2
    have := h3 z q1 q2
    unfold zm1; omega
  · funext z
    have hy1 := hy.1
    show ((c z - (if z = x then 1 else 0)) + (if z = x ^^^ 2 ^ v then 1 else 0)) - (if z = y then 1 else 0) = ((c z - (if z = y then 1 else 0)) - (if z = x then 1 else 0)) + (if z = x ^^^ 2 ^ v then 1 else 0)
    by_cases e : z = y
    · subst e
      rw [if_pos rfl, if_neg hne]; omega
    · rw [if_neg e]; omega
theorem zyS_VV {c : Nat → Nat} {x v y w : Nat} (hx : zVs c x v) (hy : zVs c y w) : zp1 (zm1 c x) (x ^^^ 2 ^ v) = zp1 (zm1 c y) (y ^^^ 2 ^ w) ∨ ∃ r, zyS (zp1 (zm1 c x) (x ^^^ 2 ^ v)) r ∧ zyS (zp1 (zm1 c y) (y ^^^ 2 ^ w)) r := by
  obtain ⟨a1, a2, a3⟩ := hx
  obtain ⟨b1, b2, b3⟩ := hy
  by_cases exy : x = y
  · subst exy
    by_cases ev : v = w
    · subst ev; exact Or.inl rfl
    · right
      have key : ∀ {v w : Nat}, v ≠ w → x.testBit v = true → x.testBit w = true → (∀ z, z ≠ x → z.testBit v = true → c z = 0) → (∀ z, z ≠ x → z.testBit w = true → c z = 0) → zyS (zp1 (zm1 c x) (x ^^^ 2 ^ v)) (zp1 (zm1 (zp1 (zm1 c x) (x ^^^ 2 ^ v)) (x ^^^ 2 ^ v)) ((x ^^^ 2 ^ v) ^^^ 2 ^ w)) := by
        intro v w hvw hv hw h3 h4
        refine Or.inl ⟨x ^^^ 2 ^ v, w, ⟨?_, ?_, ?_⟩, rfl⟩
        · rw [zx_other x hvw]; exact hw
        · rw [zp1_eq, zm1_ne (zx_ne hv), h4 _ (zx_ne hv) (by rw [zx_other x hvw]; exact hw)]
        · intro z q1 q2
          rw [zp1_ne q1]
          by_cases e : z = x
          · subst e; rw [zm1_eq]; omega
          · rw [zm1_ne e]; exact h4 z e q2
      refine ⟨_, key ev a1 b1 a3 b3, ?_⟩
      have := key (Ne.symm ev) b1 a1 b3 a3
      have e : zp1 (zm1 (zp1 (zm1 c x) (x ^^^ 2 ^ w)) (x ^^^ 2 ^ w)) ((x ^^^ 2 ^ w) ^^^ 2 ^ v) = zp1 (zm1 (zp1 (zm1 c x) (x ^^^ 2 ^ v)) (x ^^^ 2 ^ v)) ((x ^^^ 2 ^ v) ^^^ 2 ^ w) := by
        have ex : (x ^^^ 2 ^ w) ^^^ 2 ^ v = (x ^^^ 2 ^ v) ^^^ 2 ^ w := by
          rw [Nat.xor_assoc, Nat.xor_assoc, Nat.xor_comm (2 ^ w)]
        rw [ex]
        funext z
        show (((c z - (if z = x then 1 else 0)) + (if z = x ^^^ 2 ^ w then 1 else 0)) - (if z = x ^^^ 2 ^ w then 1 else 0)) + (if z = x ^^^ 2 ^ v ^^^ 2 ^ w then 1 else 0) = (((c z - (if z = x then 1 else 0)) + (if z = x ^^^ 2 ^ v then 1 else 0)) - (if z = x ^^^ 2 ^ v then 1 else 0)) + (if z = x ^^^ 2 ^ v ^^^ 2 ^ w then 1 else 0)
        rw [Nat.add_sub_cancel, Nat.add_sub_cancel]
      rw [e] at this
      exact this
  · right
    have key : ∀ {x y v w : Nat}, x ≠ y → zVs c x v → zVs c y w → zyS (zp1 (zm1 c x) (x ^^^ 2 ^ v)) (zp1 (zm1 (zp1 (zm1 c x) (x ^^^ 2 ^ v)) y) (y ^^^ 2 ^ w)) := by
      intro x y v w hxy hx hy
      obtain ⟨a1, a2, a3⟩ := hx
      obtain ⟨b1, b2, b3⟩ := hy
      have hxw : x.testBit w = false := by
        rw [← Bool.not_eq_true]
        intro e
        have := b3 x hxy e; omega
      have hxv : (x ^^^ 2 ^ v).testBit w = false := by
        by_cases e : v = w
        · subst e; exact zx_same x v a1
        · rw [zx_other x e]; exact hxw
      have hny : y ≠ x ^^^ 2 ^ v := by
        intro e
        rw [e, hxv] at b1; exact absurd b1 (by decide)
      refine Or.inl ⟨y, w, ⟨b1, ?_, ?_⟩, rfl⟩
      · rw [zp1_ne hny, zm1_ne (Ne.symm hxy)]; exact b2
      · intro z q1 q2
        have hz : z ≠ x ^^^ 2 ^ v := by
          intro e
          rw [e, hxv] at q2; exact absurd q2 (by decide)
        have hzx : z ≠ x := by
          intro e
          rw [e, hxw] at q2; exact absurd q2 (by decide)
        rw [zp1_ne hz, zm1_ne hzx]
        exact b3 z q1 q2
    refine ⟨_, key exy ⟨a1, a2, a3⟩ ⟨b1, b2, b3⟩, ?_⟩
    have := key (Ne.symm exy) ⟨b1, b2, b3⟩ ⟨a1, a2, a3⟩
    have e : zp1 (zm1 (zp1 (zm1 c y) (y ^^^ 2 ^ w)) x) (x ^^^ 2 ^ v) = zp1 (zm1 (zp1 (zm1 c x) (x ^^^ 2 ^ v)) y) (y ^^^ 2 ^ w) := by
      funext z
      unfold zp1 zm1
      by_cases ex : z = x
      · subst ex
        have : ¬ z = y := exy
        simp only [if_true, if_neg this]
        omega
      · by_cases ey : z = y
        · subst ey
          simp only [if_true, if_neg ex]
          omega
        · simp only [if_neg ex, if_neg ey]
          omega
    rw [e] at this
    exact this
theorem zyS_dia {c d e : Nat → Nat} (h : zyS c d) (g : zyS c e) : d = e ∨ ∃ r, zyS d r ∧ zyS e r := by
  rcases h with ⟨x, v, h1, rfl⟩ | ⟨x, h1, rfl⟩
  · rcases g with ⟨y, w, g1, rfl⟩ | ⟨y, g1, rfl⟩
    · exact zyS_VV h1 g1
    · exact Or.inr (zyS_VA h1 g1)
  · rcases g with ⟨y, w, g1, rfl⟩ | ⟨y, g1, rfl⟩
    · obtain ⟨r, r1, r2⟩ := zyS_VA g1 h1
      exact Or.inr ⟨r, r2, r1⟩
    · exact zyS_AA h1 g1
def zred : Nat → (Nat → Nat) → Prop
  | 0, c => ∀ x, c x = 0
  | k + 1, c => ∃ d, zyS c d ∧ zred k d
theorem zyS_pos {c d : Nat → Nat} (h : zyS c d) : ∃ x, 1 ≤ c x := by
  rcases h with ⟨x, v, h1, _⟩ | ⟨x, h1, _⟩
  · exact ⟨x, by rw [h1.2.1]; exact Nat.le_refl 1⟩
  · exact ⟨x, h1.1⟩
theorem zred_yS : ∀ {k : Nat} {c d : Nat → Nat}, zred k c → zyS c d → ∃ k', k = k' + 1 ∧ zred k' d := by
  intro k
  induction k with
  | zero =>
    intro c d h g
    obtain ⟨x, hx⟩ := zyS_pos g
    have := h x; omega
  | succ k ih =>
    intro c d h g
    obtain ⟨e, h1, h2⟩ := h
    refine ⟨k, rfl, ?_⟩
    rcases zyS_dia g h1 with q | ⟨r, r1, r2⟩
    · rw [q]; exact h2
    · obtain ⟨k', e1, h3⟩ := ih h2 r2
      rw [e1]
      exact ⟨r, r1, h3⟩
def zRed (c : Nat → Nat) : Prop := ∃ k, zred k c
theorem zRed_yS {c d : Nat → Nat} (h : zyS c d) : zRed c ↔ zRed d := by
  constructor
  · rintro ⟨k, g⟩
    obtain ⟨k', _, h2⟩ := zred_yS g h
    exact ⟨k', h2⟩
  · rintro ⟨k, g⟩
    exact ⟨k + 1, d, h, g⟩
theorem zRed_end {c : Nat → Nat} (h : ∀ d, ¬ zyS c d) : zRed c ↔ ∀ x, c x = 0 := by
  constructor
  · rintro ⟨k, g⟩
    cases k with
    | zero => exact g
    | succ k =>
      obtain ⟨d, h1, _⟩ := g
      exact absurd h1 (h d)
  · intro g; exact ⟨0, g⟩
