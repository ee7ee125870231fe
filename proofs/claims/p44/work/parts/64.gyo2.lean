/-! the atoms that stand, as a multiset of sets -/
def zmu (L : Nat → Nat) (G : Nat → Bool) (m x : Nat) : Nat := zcnt (fun i => !G i && decide (L i = x)) m
theorem zcnt_up {p q : Nat → Bool} {i : Nat} (h : ∀ j, j ≠ i → q j = p j) : ∀ {m : Nat}, i < m → zcnt q m + (p i).toNat = zcnt p m + (q i).toNat := by
  intro m
  induction m with
  | zero => intro hi; omega
  | succ m ih =>
    intro hi
    rw [zcnt_s, zcnt_s]
    by_cases e : i = m
    · subst e
      rw [zcnt_cong (p := q) (q := p) (fun k hk => h k (by omega))]
      omega
    · rw [h m (Ne.symm e)]
      have := ih (by omega)
      omega
theorem zcnt_pos {p : Nat → Bool} {m : Nat} : 1 ≤ zcnt p m ↔ ∃ i, i < m ∧ p i = true := by
  induction m with
  | zero =>
    constructor
    · intro h; have : zcnt p 0 = 0 := rfl; omega
    · rintro ⟨i, hi, _⟩; omega
  | succ m ih =>
    rw [zcnt_s]
    cases e : p m
    · show 1 ≤ zcnt p m + 0 ↔ _
      rw [Nat.add_zero, ih]
      constructor
      · rintro ⟨i, hi, g⟩; exact ⟨i, by omega, g⟩
      · rintro ⟨i, hi, g⟩
        refine ⟨i, ?_, g⟩
        rcases Nat.lt_or_ge i m with q | q
        · exact q
        · rw [show i = m by omega, e] at g; exact absurd g (by decide)
    · constructor
      · intro _; exact ⟨m, by omega, e⟩
      · intro _; show 1 ≤ zcnt p m + 1; omega
theorem zcnt_two {p : Nat → Bool} {m i : Nat} (hi : i < m) (hp : p i = true) : 2 ≤ zcnt p m ↔ ∃ j, j < m ∧ j ≠ i ∧ p j = true := by
  have h := zcnt_up (p := p) (q := fun j => if j = i then false else p j) (i := i) (fun j hj => if_neg hj) hi
  have e0 : (if i = i then false else p i) = false := if_pos rfl
  have h' : zcnt (fun j => if j = i then false else p j) m + 1 = zcnt p m := by
    have h2 : zcnt (fun j => if j = i then false else p j) m + (p i).toNat = zcnt p m + (if i = i then false else p i).toNat := h
    rw [e0, hp] at h2
    exact h2
  constructor
  · intro g
    have : 1 ≤ zcnt (fun j => if j = i then false else p j) m := by omega
    obtain ⟨j, hj, q⟩ := zcnt_pos.mp this
    by_cases e : j = i
    · have q' : (if j = i then false else p j) = true := q
      rw [if_pos e] at q'; exact absurd q' (by decide)
    · have q' : (if j = i then false else p j) = true := q
      rw [if_neg e] at q'
      exact ⟨j, hj, e, q'⟩
  · rintro ⟨j, hj, e, q⟩
    have : 1 ≤ zcnt (fun j => if j = i then false else p j) m := zcnt_pos.mpr ⟨j, hj, by show (if j = i then false else p j) = true; rw [if_neg e]; exact q⟩
    omega
theorem zmu_pos {L : Nat → Nat} {G : Nat → Bool} {m x : Nat} : 1 ≤ zmu L G m x ↔ ∃ i, i < m ∧ G i = false ∧ L i = x := by
  unfold zmu
  rw [zcnt_pos]
  simp only [Bool.and_eq_true, Bool.not_eq_true', decide_eq_true_eq]
theorem zmu_two {L : Nat → Nat} {G : Nat → Bool} {m i : Nat} (hi : i < m) (hG : G i = false) : 2 ≤ zmu L G m (L i) ↔ ∃ j, j < m ∧ j ≠ i ∧ G j = false ∧ L j = L i := by
  unfold zmu
  rw [zcnt_two hi (by simp [hG])]
  simp only [Bool.and_eq_true, Bool.not_eq_true', decide_eq_true_eq]
def zaV1 (L : Nat → Nat) (G : Nat → Bool) (m i v : Nat) : Prop := i < m ∧ G i = false ∧ (L i).testBit v = true ∧ ∀ j, j < m → j ≠ i → G j = false → (L j).testBit v = false
def zaA1 (L : Nat → Nat) (G : Nat → Bool) (m i : Nat) : Prop := i < m ∧ G i = false ∧ (L i = 0 ∨ ∃ j, j < m ∧ j ≠ i ∧ G j = false ∧ zsub (L i) (L j))
theorem zaV1_s {L : Nat → Nat} {G : Nat → Bool} {m i v : Nat} (h : zaV1 L G m i v) : zyS (zmu L G m) (zmu (zup L i (L i ^^^ 2 ^ v)) G m) := by
  obtain ⟨h1, h2, h3, h4⟩ := h
  refine Or.inl ⟨L i, v, ⟨h3, ?_, ?_⟩, ?_⟩
  · have a : 1 ≤ zmu L G m (L i) := zmu_pos.mpr ⟨i, h1, h2, rfl⟩
    have b : ¬ 2 ≤ zmu L G m (L i) := by
      rw [zmu_two h1 h2]
      rintro ⟨j, q1, q2, q3, q4⟩
      have := h4 j q1 q2 q3
      rw [q4, h3] at this; exact absurd this (by decide)
    omega
  · intro y hy hv
    apply Classical.byContradiction
    intro g
    obtain ⟨j, q1, q2, q3⟩ := zmu_pos.mp (show 1 ≤ zmu L G m y by omega)
    have hji : j ≠ i := by intro e; subst e; exact hy q3.symm
    have := h4 j q1 hji q2
    rw [q3, hv] at this; exact absurd this (by decide)
  · funext x
    have h := zcnt_up (p := fun j => !G j && decide (L j = x)) (q := fun j => !G j && decide (zup L i (L i ^^^ 2 ^ v) j = x)) (i := i) (fun j hj => by
      show (!G j && decide (zup L i (L i ^^^ 2 ^ v) j = x)) = (!G j && decide (L j = x))
      unfold zup; rw [if_neg hj]) h1
    have e1 : (!G i && decide (L i = x)).toNat = if x = L i then 1 else 0 := by
      rw [h2]
      by_cases g : x = L i
      · rw [if_pos g, decide_eq_true g.symm]; rfl
      · rw [if_neg g, decide_eq_false (fun q => g q.symm)]; rfl
    have e2 : (!G i && decide (zup L i (L i ^^^ 2 ^ v) i = x)).toNat = if x = L i ^^^ 2 ^ v then 1 else 0 := by
      rw [h2, show zup L i (L i ^^^ 2 ^ v) i = L i ^^^ 2 ^ v from if_pos rfl]
      by_cases g : x = L i ^^^ 2 ^ v
      · rw [if_pos g, decide_eq_true g.symm]; rfl
      · rw [if_neg g, decide_eq_false (fun q => g q.symm)]; rfl
    have h' : zmu (zup L i (L i ^^^ 2 ^ v)) G m x + (if x = L i then 1 else 0) = zmu L G m x + (if x = L i ^^^ 2 ^ v then 1 else 0) := by
      rw [← e1, ← e2]; exact h
    show _ = (zmu L G m x - (if x = L i then 1 else 0)) + (if x = L i ^^^ 2 ^ v then 1 else 0)
    by_cases g : x = L i
    · have hp : 1 ≤ zmu L G m x := by rw [g]; exact zmu_pos.mpr ⟨i, h1, h2, rfl⟩
      rw [if_pos g] at h' ⊢; omega
    · rw [if_neg g] at h' ⊢; omega
theorem zaA1_s {L : Nat → Nat} {G : Nat → Bool} {m i : Nat} (h : zaA1 L G m i) : zyS (zmu L G m) (zmu L (zup G i true) m) := by
  obtain ⟨h1, h2, h3⟩ := h
  refine Or.inr ⟨L i, ⟨zmu_pos.mpr ⟨i, h1, h2, rfl⟩, ?_⟩, ?_⟩
  · rcases h3 with g | ⟨j, q1, q2, q3, q4⟩
    · exact Or.inl g
    · by_cases e : L j = L i
      · exact Or.inr (Or.inl ((zmu_two h1 h2).mpr ⟨j, q1, q2, q3, e⟩))
      · exact Or.inr (Or.inr ⟨L j, e, q4, zmu_pos.mpr ⟨j, q1, q3, rfl⟩⟩)
  · funext x
    have h := zcnt_up (p := fun j => !G j && decide (L j = x)) (q := fun j => !zup G i true j && decide (L j = x)) (i := i) (fun j hj => by
      show (!zup G i true j && decide (L j = x)) = (!G j && decide (L j = x))
      unfold zup; rw [if_neg hj]) h1
    have e1 : (!G i && decide (L i = x)).toNat = if x = L i then 1 else 0 := by
      rw [h2]
      by_cases g : x = L i
      · rw [if_pos g, decide_eq_true g.symm]; rfl
      · rw [if_neg g, decide_eq_false (fun q => g q.symm)]; rfl
    have e2 : (!zup G i true i && decide (L i = x)).toNat = 0 := by
      rw [show zup G i true i = true from if_pos rfl]; rfl
    have h' : zmu L (zup G i true) m x + (if x = L i then 1 else 0) = zmu L G m x + 0 := by
      rw [← e1, ← e2]; exact h
    show _ = zmu L G m x - (if x = L i then 1 else 0)
    omega
theorem zyS_end {L : Nat → Nat} {G : Nat → Bool} {m : Nat} (hL : ∀ i, i < m → L i < 16) (hV : ∀ i v, v < 4 → ¬ zaV1 L G m i v) (hA : ∀ i, ¬ zaA1 L G m i) (d : Nat → Nat) : ¬ zyS (zmu L G m) d := by
  rintro (⟨x, v, ⟨h1, h2, h3⟩, _⟩ | ⟨x, ⟨h1, h2⟩, _⟩)
  · obtain ⟨i, q1, q2, rfl⟩ := zmu_pos.mp (show 1 ≤ zmu L G m x by omega)
    have hv : v < 4 := by
      apply Classical.byContradiction
      intro g
      rw [Nat.testBit_lt_two_pow (Nat.lt_of_lt_of_le (hL i q1) (by rw [show (16 : Nat) = 2 ^ 4 from rfl]; exact Nat.pow_le_pow_right (by decide) (by omega)))] at h1
      exact absurd h1 (by decide)
    apply hV i v hv
    refine ⟨q1, q2, h1, ?_⟩
    intro j r1 r2 r3
    rw [← Bool.not_eq_true]
    intro e
    by_cases e2 : L j = L i
    · have := (zmu_two q1 q2).mpr ⟨j, r1, r2, r3, e2⟩
      omega
    · have := h3 (L j) e2 e
      have := (zmu_pos (L := L) (G := G) (m := m) (x := L j)).mpr ⟨j, r1, r3, rfl⟩
      omega
  · obtain ⟨i, q1, q2, rfl⟩ := zmu_pos.mp h1
    apply hA i
    refine ⟨q1, q2, ?_⟩
    rcases h2 with g | g | ⟨y, g1, g2, g3⟩
    · exact Or.inl g
    · obtain ⟨j, r1, r2, r3, r4⟩ := (zmu_two q1 q2).mp g
      exact Or.inr ⟨j, r1, r2, r3, fun w hw => by rw [r4]; exact hw⟩
    · obtain ⟨j, r1, r2, rfl⟩ := zmu_pos.mp g3
      refine Or.inr ⟨j, r1, ?_, r2, g2⟩
      intro e; subst e; exact g1 rfl
theorem zmu_0 {L : Nat → Nat} {G : Nat → Bool} {m : Nat} : (∀ x, zmu L G m x = 0) ↔ ∀ i, i < m → G i = true := by
  constructor
  · intro h i hi
    cases e : G i
    · have := (zmu_pos (L := L) (G := G) (m := m) (x := L i)).mpr ⟨i, hi, e, rfl⟩
      have := h (L i); omega
    · rfl
  · intro h x
    apply Classical.byContradiction
    intro g
    obtain ⟨i, hi, q, _⟩ := zmu_pos.mp (show 1 ≤ zmu L G m x by omega)
    rw [h i hi] at q; exact absurd q (by decide)
/-- what stands, as a size that falls -/
def zmz (L : Nat → Nat) (G : Nat → Bool) (m : Nat) : Nat := zsum (fun i => if G i = true then 0 else 1 + L i) m
theorem zmz_V {L : Nat → Nat} {G : Nat → Bool} {m i v : Nat} (h : zaV1 L G m i v) (hl : L i ^^^ 2 ^ v < L i) : zmz (zup L i (L i ^^^ 2 ^ v)) G m < zmz L G m := by
  apply zsum_lt (i := i)
  · intro k _
    by_cases e : k = i
    · subst e
      rw [h.2.1, if_neg (by decide), if_neg (by decide), show zup L k (L k ^^^ 2 ^ v) k = L k ^^^ 2 ^ v from if_pos rfl]; omega
    · rw [show zup L i (L i ^^^ 2 ^ v) k = L k from if_neg e]; exact Nat.le_refl _
  · exact h.1
  · rw [h.2.1, if_neg (by decide), if_neg (by decide), show zup L i (L i ^^^ 2 ^ v) i = L i ^^^ 2 ^ v from if_pos rfl]; omega
theorem zmz_A {L : Nat → Nat} {G : Nat → Bool} {m i : Nat} (h : zaA1 L G m i) : zmz L (zup G i true) m < zmz L G m := by
  apply zsum_lt (i := i)
  · intro k _
    by_cases e : k = i
    · subst e
      rw [show zup G k true k = true from if_pos rfl, if_pos rfl]; exact Nat.zero_le _
    · rw [show zup G i true k = G k from if_neg e]; exact Nat.le_refl _
  · exact h.1
  · rw [show zup G i true i = true from if_pos rfl, if_pos rfl, h.2.1, if_neg (by decide)]; omega
theorem zmz_le {L : Nat → Nat} {G : Nat → Bool} {m : Nat} (hL : ∀ i, i < m → L i < 16) : ∀ k, k ≤ m → zmz L G k ≤ 16 * k := by
  intro k
  induction k with
  | zero => intro _; exact Nat.le_refl 0
  | succ k ih =>
    intro hk
    show zmz L G k + (if G k = true then 0 else 1 + L k) ≤ _
    have := ih (by omega)
    have := hL k (by omega)
    split <;> omega
theorem zx_less : ∀ x : Fin 16, ∀ v : Fin 4, x.val.testBit v.val = true → x.val ^^^ 2 ^ v.val < x.val ∧ nI x.val &&& ((nI (2 ^ v.val)) ^^^ (-1 : Int32)) = nI (x.val ^^^ 2 ^ v.val) ∧ nI x.val - nI (2 ^ v.val) = nI (x.val ^^^ 2 ^ v.val) := by decide +kernel
theorem zx_and : ∀ x : Fin 16, ∀ v : Fin 4, ((nI x.val &&& nI (2 ^ v.val)) = 0) = (x.val.testBit v.val = false) := by
  intro x v
  have h : ∀ x : Fin 16, ∀ v : Fin 4, ((nI x.val &&& nI (2 ^ v.val)) = 0) ↔ (x.val.testBit v.val = false) := by decide +kernel
  exact propext (h x v)
theorem zx_sub : ∀ x : Fin 16, ∀ y : Fin 16, ((nI x.val &&& (nI y.val ^^^ (-1 : Int32))) = 0) ↔ ∀ v : Fin 4, x.val.testBit v.val = true → y.val.testBit v.val = true := by decide +kernel
theorem zx_subset {x y : Nat} (hx : x < 16) (hy : y < 16) : ((nI x &&& (nI y ^^^ (-1 : Int32))) = 0) ↔ zsub x y := by
  rw [zx_sub ⟨x, hx⟩ ⟨y, hy⟩]
  constructor
  · intro h w hw
    by_cases g : w < 4
    · exact h ⟨w, g⟩ hw
    · rw [Nat.testBit_lt_two_pow (Nat.lt_of_lt_of_le hx (by rw [show (16 : Nat) = 2 ^ 4 from rfl]; exact Nat.pow_le_pow_right (by decide) (by omega)))] at hw
      exact absurd hw (by decide)
  · intro h v hv; exact h v.val hv
