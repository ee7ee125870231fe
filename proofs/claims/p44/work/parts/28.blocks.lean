/-! what the askings in turn find: the values that all atoms tell -/
def zwr (n k : Nat) : Nat := if k < n then k else k - n
theorem znx_at {p : Nat → Bool} {n : Nat} : ∀ k t, t < n → k ≤ n → (∃ m, m < k ∧ p (zwr n (t + 1 + m)) = true) → ∃ m, m < k ∧ znx p n k t = zwr n (t + 1 + m) ∧ p (zwr n (t + 1 + m)) = true ∧ ∀ q, q < m → p (zwr n (t + 1 + q)) = false
  | 0, t, _, _, ⟨m, hm, _⟩ => by omega
  | k + 1, t, ht, hk, ⟨m, hm, hp⟩ => by
    have e0 : (if t + 1 < n then t + 1 else 0) = zwr n (t + 1) := by unfold zwr; split <;> omega
    rw [znx, e0]
    by_cases g : p (zwr n (t + 1)) = true
    · rw [if_pos g]; exact ⟨0, by omega, rfl, g, fun q hq => by omega⟩
    · rw [if_neg g]
      have ht' : zwr n (t + 1) < n := by unfold zwr; split <;> omega
      have em : ∀ q, q < k → zwr n (zwr n (t + 1) + 1 + q) = zwr n (t + 1 + (q + 1)) := by
        intro q hq; unfold zwr; split <;> split <;> split <;> omega
      cases m with
      | zero => exact absurd hp g
      | succ m =>
        obtain ⟨m', h1, h2, h3, h4⟩ := znx_at k (zwr n (t + 1)) ht' (by omega) ⟨m, by omega, by rw [em m (by omega)]; exact hp⟩
        rw [em m' h1] at h2 h3
        refine ⟨m' + 1, by omega, h2, h3, ?_⟩
        intro q hq
        cases q with
        | zero => simpa using g
        | succ q => rw [← em q (by omega)]; exact h4 q (by omega)
theorem znx_next {p : Nat → Bool} {n t i0 : Nat} (ht : t < n) (hi0 : i0 < n) (hp0 : p i0 = true) :
    (t < znx p n n t ∧ ∀ i, t < i → i < znx p n n t → p i = false) ∨ (znx p n n t ≤ t ∧ (∀ i, t < i → i < n → p i = false) ∧ ∀ i, i < znx p n n t → p i = false) := by
  obtain ⟨m, h1, h2, h3, h4⟩ := znx_at (p := p) n t ht (Nat.le_refl n) ⟨if t < i0 then i0 - t - 1 else i0 + n - t - 1, by split <;> omega, by
    have : zwr n (t + 1 + if t < i0 then i0 - t - 1 else i0 + n - t - 1) = i0 := by
      unfold zwr
      by_cases g : t < i0
      · simp only [if_pos g]; split <;> omega
      · simp only [if_neg g]; split <;> omega
    rw [this]; exact hp0⟩
  rw [h2]
  by_cases g : t + 1 + m < n
  · left
    have e : zwr n (t + 1 + m) = t + 1 + m := if_pos g
    rw [e]
    refine ⟨by omega, ?_⟩
    intro i hi hi2
    have := h4 (i - t - 1) (by omega)
    have e2 : zwr n (t + 1 + (i - t - 1)) = i := by unfold zwr; split <;> omega
    rw [e2] at this; exact this
  · right
    have e : zwr n (t + 1 + m) = t + 1 + m - n := if_neg g
    rw [e]
    refine ⟨by omega, ?_, ?_⟩
    · intro i hi hi2
      have := h4 (i - t - 1) (by omega)
      have e2 : zwr n (t + 1 + (i - t - 1)) = i := by unfold zwr; split <;> omega
      rw [e2] at this; exact this
    · intro i hi
      have := h4 (i + n - t - 1) (by omega)
      have e2 : zwr n (t + 1 + (i + n - t - 1)) = i := by unfold zwr; split <;> omega
      rw [e2] at this; exact this
/-- how many were asked behind i, up to t -/
def zbd (p : Nat → Bool) (n t i : Nat) : Nat := if i ≤ t then zcnt p (t + 1) - zcnt p (i + 1) else zcnt p (t + 1) + zcnt p n - zcnt p (i + 1)
theorem zcnt_flat {p : Nat → Bool} {a : Nat} : ∀ {b : Nat}, a ≤ b → (∀ i, a ≤ i → i < b → p i = false) → zcnt p b = zcnt p a
  | 0, h, _ => by rw [Nat.le_zero.mp h]
  | b + 1, h, hp => by
    rcases Nat.lt_or_ge a (b + 1) with h1 | h1
    · rw [zcnt_s, hp b (by omega) (by omega), zcnt_flat (show a ≤ b by omega) (fun i h2 h3 => hp i h2 (by omega))]; rfl
    · rw [show a = b + 1 by omega]
theorem zbd_lt {p : Nat → Bool} {n t i : Nat} (ht : t < n) (hi : i < n) (hp : p i = true) : zbd p n t i < zcnt p n := by
  have h1 : zcnt p (i + 1) = zcnt p i + 1 := by rw [zcnt_s, hp]; rfl
  have h2 := zcnt_mono p (show i + 1 ≤ n by omega)
  have h3 := zcnt_mono p (show t + 1 ≤ n by omega)
  unfold zbd
  split
  · omega
  · have h4 := zcnt_mono p (show t + 1 ≤ i by omega)
    omega
theorem zbd_next {p : Nat → Bool} {n t i : Nat} (ht : t < n) (hi : i < n) (hp : p i = true) (hne : i ≠ znx p n n t) : zbd p n (znx p n n t) i = zbd p n t i + 1 := by
  have hu := znx_le p n n t ht
  have hpu : p (znx p n n t) = true := znx_p hi hp ht
  have hnx := znx_next ht hi hp
  generalize znx p n n t = u at *
  have h1 : zcnt p (u + 1) = zcnt p u + 1 := by rw [zcnt_s, hpu]; rfl
  have h2 : zcnt p (i + 1) = zcnt p i + 1 := by rw [zcnt_s, hp]; rfl
  have h3 := zcnt_mono p (show i + 1 ≤ n by omega)
  rcases hnx with ⟨g1, g2⟩ | ⟨g1, g2, g3⟩
  · have e : zcnt p u = zcnt p (t + 1) := zcnt_flat (by omega) (fun q h4 h5 => g2 q (by omega) h5)
    unfold zbd
    by_cases c1 : i ≤ t
    · have h4 := zcnt_mono p (show i + 1 ≤ t + 1 by omega)
      rw [if_pos c1, if_pos (by omega)]; omega
    · have c2 : ¬ i ≤ u := by
        intro c3
        have := g2 i (by omega) (by omega)
        rw [hp] at this; exact absurd this (by decide)
      rw [if_neg c1, if_neg c2]; omega
  · have e1 : zcnt p n = zcnt p (t + 1) := zcnt_flat (by omega) (fun q h4 h5 => g2 q (by omega) h5)
    have e2 : zcnt p u = zcnt p 0 := zcnt_flat (by omega) (fun q h4 h5 => g3 q h5)
    rw [zcnt_0] at e2
    have c1 : i ≤ t := by
      apply Classical.byContradiction; intro c
      have := g2 i (by omega) hi
      rw [hp] at this; exact absurd this (by decide)
    have c2 : ¬ i ≤ u := by
      intro c
      have := g3 i (by omega)
      rw [hp] at this; exact absurd this (by decide)
    have h4 := zcnt_mono p (show i + 1 ≤ t + 1 by omega)
    unfold zbd
    rw [if_pos c1, if_neg c2]; omega
def zbl {α : Type} (sub : Nat → List α) (good : Nat → Bool) : Nat → Nat → List α
  | 0, _ => []
  | c + 1, x => (if good x = true then sub x else []) ++ zbl sub good c (x + 1)
theorem zbl_skip {α : Type} {sub : Nat → List α} {good : Nat → Bool} : ∀ {a b x : Nat}, (∀ y, x ≤ y → y < x + a → good y = false) → zbl sub good (a + b) x = zbl sub good b (x + a)
  | 0, b, x, _ => by rw [Nat.zero_add]; rfl
  | a + 1, b, x, h => by
    rw [show a + 1 + b = (a + b) + 1 by omega, zbl, h x (by omega) (by omega), zbl_skip (fun y h1 h2 => h y (by omega) (by omega))]
    simp; congr 1; omega
theorem zbl_none {α : Type} {sub : Nat → List α} {good : Nat → Bool} : ∀ {a x : Nat}, (∀ y, x ≤ y → y < x + a → good y = false) → zbl sub good a x = []
  | 0, _, _ => rfl
  | a + 1, x, h => by
    rw [zbl, h x (by omega) (by omega), zbl_none (fun y h1 h2 => h y (by omega) (by omega))]; rfl
/-- all atoms with the variable tell this value -/
def zgood (R : Nat → Nat → Bool) (A : Nat → zA) (n : Nat) (d : Nat → Nat) (v r : Nat) : Bool := zall (fun i => !zaH (A i) v || zhas R (A i) d v r) n
theorem zIn_list {α : Type} (R : Nat → Nat → Bool) (A : Nat → zA) (n : Nat) (d : Nat → Nat) (v : Nat) (sub : Nat → List α × Nat) {i0 : Nat} (hi0 : i0 < n) (hp0 : zaH (A i0) v = true) (hn : n ≤ 5) :
    ∀ k t x like, t < n → x ≤ 8 → like < zcnt (fun i => zaH (A i) v) n → 6 * (8 - x) + (zcnt (fun i => zaH (A i) v) n - like) < k → (∀ i, i < n → zaH (A i) v = true → zbd (fun i => zaH (A i) v) n t i < like → zhas R (A i) d v x = true) →
      (zIn sub (fun u x => zT R A d v u x) (znx (fun i => zaH (A i) v) n n) (zcnt (fun i => zaH (A i) v) n) k t x like).1 = zbl (fun r => (sub r).1) (zgood R A n d v) (8 - x) x := by
  have hcn := zcnt_le (fun i => zaH (A i) v) n
  intro k
  induction k with
  | zero => intro t x like _ _ _ h; omega
  | succ k ih =>
    intro t x like ht hx hl hk hinv
    have hTl := zT_le R A d v (znx (fun i => zaH (A i) v) n n t) hx
    have hu := znx_le (fun i => zaH (A i) v) n n t ht
    have hpu : zaH (A (znx (fun i => zaH (A i) v) n n t)) v = true := znx_p (p := fun i => zaH (A i) v) hi0 hp0 ht
    have hbn : ∀ i, i < n → zaH (A i) v = true → i ≠ znx (fun i => zaH (A i) v) n n t → zbd (fun i => zaH (A i) v) n (znx (fun i => zaH (A i) v) n n t) i = zbd (fun i => zaH (A i) v) n t i + 1 := fun i hi hp hne => zbd_next (p := fun i => zaH (A i) v) ht hi hp hne
    have hbl : ∀ i, i < n → zaH (A i) v = true → zbd (fun i => zaH (A i) v) n (znx (fun i => zaH (A i) v) n n t) i < zcnt (fun i => zaH (A i) v) n := fun i hi hp => zbd_lt (p := fun i => zaH (A i) v) hu hi hp
    rw [zIn]
    generalize znx (fun i => zaH (A i) v) n n t = u at *
    have hno : ∀ y, x ≤ y → y < zT R A d v u x → zgood R A n d v y = false := by
      intro y h1 h2
      rw [← Bool.not_eq_true]
      intro g
      have := zall_iff.mp g u hu
      rw [hpu, zlst_no _ _ _ y h1 h2] at this
      exact absurd this (by decide)
    have hyes : zT R A d v u x < 8 → zhas R (A u) d v (zT R A d v u x) = true := fun h => zlst_yes _ _ _ (by unfold zT at h; omega)
    generalize hre : zT R A d v u x = r at *
    by_cases hr : r = 8
    · rw [if_pos hr]
      show [] = _
      rw [zbl_none]
      intro y h1 h2
      exact hno y h1 (by omega)
    · rw [if_neg hr]
      have hsk : zbl (fun r => (sub r).1) (zgood R A n d v) (8 - x) x = zbl (fun r => (sub r).1) (zgood R A n d v) (8 - r) r := by
        have := zbl_skip (sub := fun r => (sub r).1) (good := zgood R A n d v) (a := r - x) (b := 8 - r) (x := x) (fun y h1 h2 => hno y h1 (by omega))
        rw [show r - x + (8 - r) = 8 - x by omega, show x + (r - x) = r by omega] at this
        exact this
      have hinv' : ∀ i, i < n → zaH (A i) v = true → zbd (fun i => zaH (A i) v) n u i < (if x < r then 1 else like + 1) → zhas R (A i) d v r = true := by
        intro i hi hp hb
        by_cases hiu : i = u
        · rw [hiu]; exact hyes (by omega)
        · have h1 := hbn i hi hp hiu
          by_cases hxr : x < r
          · rw [if_pos hxr] at hb; omega
          · rw [if_neg hxr] at hb
            have : r = x := by omega
            rw [this]
            exact hinv i hi hp (by omega)
      by_cases ha : (if x < r then 1 else like + 1) < zcnt (fun i => zaH (A i) v) n
      · rw [if_pos ha]
        show (zIn _ _ _ _ k u r _).1 = _
        rw [ih u r _ hu (by omega) ha (by split <;> omega) hinv', hsk]
      · rw [if_neg ha]
        show (sub r).1 ++ (zIn _ _ _ _ k u (r + 1) 0).1 = _
        rw [ih u (r + 1) 0 hu (by omega) (by omega) (by omega) (fun i _ _ h => by omega), hsk, show 8 - r = (8 - (r + 1)) + 1 by omega, zbl]
        have hg : zgood R A n d v r = true := by
          unfold zgood
          rw [zall_iff]
          intro i hi
          cases hp : zaH (A i) v
          · rfl
          · have := hbl i hi hp
            rw [hinv' i hi hp (by omega)]; rfl
        rw [if_pos hg]
