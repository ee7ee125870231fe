/-! least layers: five passes are enough -/
def zStb (Ed : Nat → Nat → Nat → Prop) (S : Nat → Nat) : Prop := ∀ h u w, Ed h u w → S u + w ≤ S h
def zEd (Ed : Nat → Nat → Nat → Prop) : Prop := ∀ h u w, Ed h u w → h < 5 ∧ u < 5 ∧ w ≤ 1
def zLst (Ed : Nat → Nat → Nat → Prop) (M : Nat → Nat) : Prop := zStb Ed M ∧ ∀ S, zStb Ed S → ∀ v, v < 5 → M v ≤ S v
theorem zsum_lt {f g : Nat → Nat} {n i : Nat} (h : ∀ k, k < n → f k ≤ g k) (hi : i < n) (hlt : f i < g i) : zsum f n < zsum g n := by
  induction n with
  | zero => omega
  | succ n ih =>
    show zsum f n + f n < zsum g n + g n
    have h1 := h n (by omega)
    by_cases e : i = n
    · subst e
      have := zsum_le (n := i) (fun k hk => h k (by omega))
      omega
    · have := ih (fun k hk => h k (by omega)) (by omega)
      omega
theorem zLst_ex {Ed : Nat → Nat → Nat → Prop} (hE : zEd Ed) {S : Nat → Nat} (hS : zStb Ed S) : ∃ M, zLst Ed M := by
  have main : ∀ n (S : Nat → Nat), zStb Ed S → zsum S 5 ≤ n → ∃ M, zLst Ed M := by
    intro n
    induction n with
    | zero =>
      intro S hS hn
      refine ⟨S, hS, ?_⟩
      intro T hT v hv
      apply Classical.byContradiction
      intro g
      have := zsum_lt (f := fun _ => 0) (g := S) (n := 5) (i := v) (fun _ _ => Nat.zero_le _) hv (by show 0 < S v; omega)
      rw [zsum_0] at this; omega
    | succ n ih =>
      intro S hS hn
      by_cases hc : ∃ T, zStb Ed T ∧ ∃ v, v < 5 ∧ T v < S v
      · obtain ⟨T, hT, v, hv, hlt⟩ := hc
        apply ih (fun i => if T i ≤ S i then T i else S i)
        · intro h u w e
          have h1 := hS h u w e
          have h2 := hT h u w e
          show (if T u ≤ S u then T u else S u) + w ≤ if T h ≤ S h then T h else S h
          split <;> split <;> omega
        · have := zsum_lt (f := fun i => if T i ≤ S i then T i else S i) (g := S) (n := 5) (i := v) (fun k _ => by show (if T k ≤ S k then T k else S k) ≤ S k; split <;> omega) hv (by show (if T v ≤ S v then T v else S v) < S v; split <;> omega)
          omega
      · refine ⟨S, hS, ?_⟩
        intro T hT v hv
        apply Classical.byContradiction
        intro g
        exact hc ⟨T, hT, v, hv, by omega⟩
  exact main (zsum S 5) S hS (Nat.le_refl _)
/-- less somewhere and stable: against leastness -/
theorem zLst_no {Ed : Nat → Nat → Nat → Prop} {M T : Nat → Nat} (hM : zLst Ed M) (hT : zStb Ed T) {v : Nat} (hv : v < 5) (hlt : T v < M v) : False := by
  have := hM.2 T hT v hv; omega
theorem zLst_val {Ed : Nat → Nat → Nat → Prop} (hE : zEd Ed) {M : Nat → Nat} (hM : zLst Ed M) {k v : Nat} (hv : v < 5) (hk : k < M v) : ∃ u, u < 5 ∧ M u = k := by
  apply Classical.byContradiction
  intro hno
  have hne : ∀ u, u < 5 → M u ≠ k := fun u hu e => hno ⟨u, hu, e⟩
  refine zLst_no hM (T := fun i => if k < M i then M i - 1 else M i) ?_ hv (by show (if k < M v then M v - 1 else M v) < M v; rw [if_pos hk]; omega)
  intro h u w e
  obtain ⟨h1, h2, h3⟩ := hE h u w e
  have h4 := hM.1 h u w e
  have h5 := hne u h2
  have h6 := hne h h1
  show (if k < M u then M u - 1 else M u) + w ≤ if k < M h then M h - 1 else M h
  split <;> split <;> omega
theorem zLst_4 {Ed : Nat → Nat → Nat → Prop} (hE : zEd Ed) {M : Nat → Nat} (hM : zLst Ed M) {v : Nat} (hv : v < 5) : M v ≤ 4 := by
  apply Classical.byContradiction
  intro g
  have hc : ∀ k, k ≤ 4 → k + 1 ≤ zcnt (fun u => decide (M u ≤ k)) 5 := by
    intro k
    induction k with
    | zero =>
      intro _
      obtain ⟨u, hu, e⟩ := zLst_val hE hM hv (show 0 < M v by omega)
      have h1 := zcnt_mono (fun u => decide (M u ≤ 0)) (show u + 1 ≤ 5 by omega)
      rw [zcnt_s] at h1
      simp only [e, Nat.le_refl, decide_true, Bool.toNat_true] at h1
      omega
    | succ k ih =>
      intro hk
      have h0 := ih (by omega)
      obtain ⟨u, hu, e⟩ := zLst_val hE hM hv (show k + 1 < M v by omega)
      have hlt : zcnt (fun u => decide (M u ≤ k)) 5 < zcnt (fun u => decide (M u ≤ k + 1)) 5 := by
        apply zsum_lt (i := u)
        · intro i _
          by_cases c : M i ≤ k
          · simp [c, show M i ≤ k + 1 by omega]
          · simp [c]
        · exact hu
        · simp [e]
      omega
  have h5 := hc 4 (Nat.le_refl 4)
  have hlt : zcnt (fun u => decide (M u ≤ 4)) 5 < zcnt (fun _ => true) 5 := by
    apply zsum_lt (i := v)
    · intro i _
      exact Bool.toNat_le _
    · exact hv
    · simp [show ¬ M v ≤ 4 by omega]
  have : zcnt (fun _ => true) 5 = 5 := rfl
  omega
/-- a pass: nothing gets less, nothing gets beyond what is stable, each edge is raised -/
def zPass (Ed : Nat → Nat → Nat → Prop) (L L' : Nat → Nat) (b : Bool) : Prop :=
  (∀ v, v < 5 → L v ≤ L' v) ∧ (∀ S, zStb Ed S → (∀ v, v < 5 → L v ≤ S v) → ∀ v, v < 5 → L' v ≤ S v) ∧ (b = false → (∀ v, v < 5 → L' v = L v) ∧ ∀ h u w, Ed h u w → L u + w ≤ L h) ∧ (b = true → ∃ v, v < 5 ∧ L v < L' v) ∧ ∀ h u w, Ed h u w → L u + w ≤ L' h
def zfin (M L : Nat → Nat) : Nat := zcnt (fun v => decide (L v = M v)) 5
theorem zfin_5 {M L : Nat → Nat} (h : 5 ≤ zfin M L) {v : Nat} (hv : v < 5) : L v = M v := by
  apply Classical.byContradiction
  intro g
  have hlt : zfin M L < zcnt (fun _ => true) 5 := by
    apply zsum_lt (i := v)
    · intro i _; exact Bool.toNat_le _
    · exact hv
    · simp [g]
  have : zcnt (fun _ => true) 5 = 5 := rfl
  omega
theorem zfin_up {Ed : Nat → Nat → Nat → Prop} (hE : zEd Ed) {M : Nat → Nat} (hM : zLst Ed M) {L L' : Nat → Nat} {b : Bool} (hL : ∀ v, v < 5 → L v ≤ M v) (hP : zPass Ed L L' b) : 5 ≤ zfin M L' ∨ zfin M L < zfin M L' := by
  obtain ⟨p1, p2, p3, p4, p5⟩ := hP
  have hL' := p2 M hM.1 hL
  by_cases hall : ∀ v, v < 5 → L v = M v
  · left
    have : ∀ v, v < 5 → L' v = M v := fun v hv => by have := p1 v hv; have := hL' v hv; have := hall v hv; omega
    have e : zfin M L' = zcnt (fun _ => true) 5 := zcnt_cong (fun v hv => by simp [this v hv])
    rw [e]; decide
  · right
    have hex : ∃ v, v < 5 ∧ L v < M v := by
      apply Classical.byContradiction
      intro g
      exact hall (fun v hv => by
        have := hL v hv
        apply Classical.byContradiction; intro q
        exact g ⟨v, hv, by omega⟩)
    obtain ⟨v0, hv0, hlt0⟩ := hex
    -- a tight edge from what is reached to what isn't
    have htight : ∃ h u w, Ed h u w ∧ L u = M u ∧ L h < M h ∧ M u + w = M h := by
      apply Classical.byContradiction
      intro hno
      refine zLst_no hM (T := fun i => if L i < M i then M i - 1 else M i) ?_ hv0 (by show (if L v0 < M v0 then M v0 - 1 else M v0) < M v0; rw [if_pos hlt0]; omega)
      intro h u w e
      obtain ⟨h1, h2, h3⟩ := hE h u w e
      have h4 := hM.1 h u w e
      have h5 := hL u h2
      have h6 := hL h h1
      show (if L u < M u then M u - 1 else M u) + w ≤ if L h < M h then M h - 1 else M h
      by_cases c1 : L u < M u
      · rw [if_pos c1]; split <;> omega
      · rw [if_neg c1]
        by_cases c2 : L h < M h
        · rw [if_pos c2]
          have : M u + w ≠ M h := fun q => hno ⟨h, u, w, e, by omega, c2, q⟩
          omega
        · rw [if_neg c2]; exact h4
    obtain ⟨h, u, w, e, t1, t2, t3⟩ := htight
    obtain ⟨h1, h2, h3⟩ := hE h u w e
    have h4 := p5 h u w e
    have h5 := hL' h h1
    apply zsum_lt (i := h)
    · intro i hi
      by_cases c : L i = M i
      · have := p1 i hi; have := hL' i hi
        simp [c, show L' i = M i by omega]
      · simp [c]
    · exact h1
    · simp [show ¬ L h = M h by omega, show L' h = M h by omega]
theorem zfin_0 {Ed : Nat → Nat → Nat → Prop} (hE : zEd Ed) {M : Nat → Nat} (hM : zLst Ed M) : 1 ≤ zfin M (fun _ => 0) := by
  have hex : ∃ v, v < 5 ∧ M v = 0 := by
    apply Classical.byContradiction
    intro hno
    have hpos : ∀ v, v < 5 → 0 < M v := fun v hv => by
      apply Classical.byContradiction; intro q
      exact hno ⟨v, hv, by omega⟩
    refine zLst_no hM (T := fun i => M i - 1) ?_ (show 0 < 5 by omega) (by have := hpos 0 (by omega); show M 0 - 1 < M 0; omega)
    intro h u w e
    obtain ⟨h1, h2, h3⟩ := hE h u w e
    have h4 := hM.1 h u w e
    have := hpos u h2
    show M u - 1 + w ≤ M h - 1
    omega
  obtain ⟨v, hv, e⟩ := hex
  have h1 := zcnt_mono (fun i => decide (0 = M i)) (show v + 1 ≤ 5 by omega)
  have h2 : zcnt (fun i => decide (0 = M i)) (v + 1) = zcnt (fun i => decide (0 = M i)) v + (decide (0 = M v)).toNat := zcnt_s _ _
  rw [decide_eq_true e.symm] at h2
  simp only [Bool.toNat_true] at h2
  show 1 ≤ zcnt (fun i => decide (0 = M i)) 5
  omega
theorem zLst_of {Ed : Nat → Nat → Nat → Prop} {M L : Nat → Nat} (hE : zEd Ed) (hM : zLst Ed M) (hL : ∀ v, v < 5 → L v ≤ M v) (hs : ∀ h u w, Ed h u w → L u + w ≤ L h) {v : Nat} (hv : v < 5) : L v = M v := Nat.le_antisymm (hL v hv) (hM.2 L hs v hv)
