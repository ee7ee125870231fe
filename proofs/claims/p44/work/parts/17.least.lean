/-! the least value that a variable has in a row that fits -/
theorem zb_eq0 (w : Int64) : (w = 0) = (∀ j, j < 64 → zb w j = false) := by
  apply propext
  constructor
  · intro h j _; rw [h, zb_0]
  · intro h; apply zb_ext; intro j hj; rw [h j hj, zb_0]
theorem zb_row : ∀ o : Fin 8, ∀ j : Fin 64, zb ((255 : Int64) <<< ((nI (8 * o.val)).toInt64 &&& 63)) j.val = decide (j.val / 8 = o.val) := by decide +kernel
theorem zb_colm : ∀ o : Fin 8, ∀ j : Fin 64, zb ((72340172838076673 : Int64) <<< ((nI o.val).toInt64 &&& 63)) j.val = decide (j.val % 8 = o.val) := by decide +kernel
theorem zb_alike : ∀ j : Fin 64, zb (-9205322385119247871 : Int64) j.val = decide (j.val / 8 = j.val % 8) := by decide +kernel
/-- the first from x on, 8 if none -/
def zlst (p : Nat → Bool) : Nat → Nat → Nat
  | 0, x => x
  | n + 1, x => if p x = true then x else zlst p n (x + 1)
theorem zlst_le (p : Nat → Bool) : ∀ n x, x ≤ zlst p n x ∧ zlst p n x ≤ x + n
  | 0, x => ⟨Nat.le_refl x, Nat.le_refl x⟩
  | n + 1, x => by
    rw [zlst]; split
    · omega
    · have := zlst_le p n (x + 1); omega
theorem zlst_no (p : Nat → Bool) : ∀ n x y, x ≤ y → y < zlst p n x → p y = false
  | 0, x, y, h, h2 => by rw [zlst] at h2; omega
  | n + 1, x, y, h, h2 => by
    rw [zlst] at h2
    split at h2
    · omega
    · rename_i hp
      by_cases e : y = x
      · subst e; simpa using hp
      · exact zlst_no p n (x + 1) y (by omega) h2
theorem zlst_yes (p : Nat → Bool) : ∀ n x, zlst p n x < x + n → p (zlst p n x) = true
  | 0, x, h => by rw [zlst] at h; omega
  | n + 1, x, h => by
    rw [zlst] at h ⊢
    split
    · rename_i hp; exact hp
    · rename_i hp
      rw [if_neg hp] at h
      exact zlst_yes p n (x + 1) (by omega)
theorem zlst_cong {p q : Nat → Bool} : ∀ {n x}, (∀ y, x ≤ y → y < x + n → p y = q y) → zlst p n x = zlst q n x
  | 0, x, _ => rfl
  | n + 1, x, h => by
    rw [zlst, zlst, h x (by omega) (by omega), zlst_cong (fun y h1 h2 => h y (by omega) (by omega))]
/-- a value that the leaps tell, or NONE -/
def zres (r : Nat) : Int32 := if r < 8 then nI r else -1
/-- whether a column's variable leaves a value open -/
def zpin (d : Nat → Nat) (v c : Nat) : Bool := decide (d v = 0) || decide (c = d v % 8)
theorem zX8_mask2 {d : Nat → Nat} (h : ∀ v, v < 4 → d v < 16) {v : Nat} (hv : v < 4) : ∃ M, fX8_mask (nI (zch d)) (nI v) (255 : Int64) (8 : Int32) = some M ∧ ∀ j, j < 64 → zb M j = zpin d v (j / 8) := by
  have hl := zch_lt h
  have hd := zch_dig h hv
  have hs : 4 * v % 32 = 4 * v := by omega
  have hm1 : ¬ nI v = -nI 1 := zi_m1 (by omega)
  have hdl := h v hv
  simp (disch := omega) only [fX8_mask, zi_lit, zi_mul, zi_and, zn_and31, zn_and15, zn_and7, hs, zi_shrP, hd, zi_eq]
  rw [if_neg hm1]
  by_cases h0 : d v = 0
  · rw [if_pos h0]
    exact ⟨_, rfl, fun j hj => by rw [zb_m1 hj]; unfold zpin; simp [h0]⟩
  · rw [if_neg h0]
    refine ⟨_, rfl, fun j hj => ?_⟩
    have := zb_row ⟨d v % 8, Nat.mod_lt _ (by decide)⟩ ⟨j, hj⟩
    simp only at this
    have e : (63 : Int64) = 63 := rfl
    rw [this]
    unfold zpin; simp [h0]
theorem zX8_mask3 {d : Nat → Nat} (h : ∀ v, v < 4 → d v < 16) {v : Nat} (hv : v < 4) : ∃ M, fX8_mask (nI (zch d)) (nI v) (72340172838076673 : Int64) (1 : Int32) = some M ∧ ∀ j, j < 64 → zb M j = zpin d v (j % 8) := by
  have hl := zch_lt h
  have hd := zch_dig h hv
  have hs : 4 * v % 32 = 4 * v := by omega
  have hm1 : ¬ nI v = -nI 1 := zi_m1 (by omega)
  have hdl := h v hv
  simp (disch := omega) only [fX8_mask, zi_lit, zi_mul, zi_and, zn_and31, zn_and15, zn_and7, hs, zi_shrP, hd, zi_eq]
  rw [if_neg hm1]
  by_cases h0 : d v = 0
  · rw [if_pos h0]
    exact ⟨_, rfl, fun j hj => by rw [zb_m1 hj]; unfold zpin; simp [h0]⟩
  · rw [if_neg h0]
    refine ⟨_, rfl, fun j hj => ?_⟩
    have := zb_colm ⟨d v % 8, Nat.mod_lt _ (by decide)⟩ ⟨j, hj⟩
    simp only at this
    rw [Nat.one_mul, this]
    unfold zpin; simp [h0]
/-- the bits of the cells of a value of the first column -/
def zcb (R : Nat → Nat → Bool) (a : zA) (d : Nat → Nat) (i j : Nat) : Bool :=
  R a.1 (64 * i + j) && (decide (a.2.1 ≤ 1) || zpin d a.2.2.2.1 (j / 8)) && (decide (a.2.1 ≤ 2) || zpin d a.2.2.2.2 (j % 8)) && (decide (a.2.1 ≤ 2) || !decide (a.2.2.2.1 = a.2.2.2.2) || decide (j / 8 = j % 8)) && (decide (a.2.1 ≤ 1) || !decide (a.2.2.2.1 = a.2.2.1) || decide (j / 8 = i)) && (decide (a.2.1 ≤ 2) || !decide (a.2.2.2.2 = a.2.2.1) || decide (j % 8 = i))
def zop (a : zA) (d : Nat → Nat) (j : Nat) : Bool :=
  (decide (a.2.1 ≤ 1) || zpin d a.2.2.2.1 (j / 8)) && (decide (a.2.1 ≤ 2) || zpin d a.2.2.2.2 (j % 8)) && (decide (a.2.1 ≤ 2) || !decide (a.2.2.2.1 = a.2.2.2.2) || decide (j / 8 = j % 8))
theorem zX8_leastIn (K : Nat) (hK : 8 < K) (J : Int64) {x : Nat} (hx : x ≤ 8) (b : Bool) : fX8_leastIn K J (nI x) (bI b) = some (zres (zlst (fun y => zany (fun j => zb J j && decide ((if b then j / 8 else j % 8) = y)) 64) (8 - x) x)) := by
  unfold fX8_leastIn
  obtain ⟨r, hr, e⟩ := z_for (F := fun k i (s : Unit) => fX8_leastIn_3 K J (nI x) (bI b) k (nI i)) (n := 8)
    (inv := fun i _ => x ≤ i ∧ zlst (fun y => zany (fun j => zb J j && decide ((if b then j / 8 else j % 8) = y)) 64) (8 - i) i = zlst (fun y => zany (fun j => zb J j && decide ((if b then j / 8 else j % 8) = y)) 64) (8 - x) x)
    (post := fun s => s = zres (zlst (fun y => zany (fun j => zb J j && decide ((if b then j / 8 else j % 8) = y)) 64) (8 - x) x))
    (by
      intro k i s hi hv
      obtain ⟨hxi, hv⟩ := hv
      have hni : 8 - i = (8 - (i + 1)) + 1 := by omega
      rw [hni, zlst] at hv
      have key : ∀ M : Int64, (∀ j, j < 64 → zb M j = decide ((if b then j / 8 else j % 8) = i)) → ((J &&& M = (0 : Int64)) ↔ ¬ zany (fun j => zb J j && decide ((if b then j / 8 else j % 8) = i)) 64 = true) := by
        intro M hM
        rw [zb_eq0, zany_iff]
        constructor
        · rintro h ⟨j, hj, h2⟩
          have := h j hj
          rw [zb_and, hM j hj] at this
          rw [this] at h2; exact absurd h2 (by decide)
        · intro h j hj
          rw [zb_and, hM j hj]
          cases hc : (zb J j && decide ((if b then j / 8 else j % 8) = i))
          · rfl
          · exact absurd ⟨j, hj, hc⟩ h
      have step : ∀ M : Int64, (∀ j, j < 64 → zb M j = decide ((if b then j / 8 else j % 8) = i)) → fX8_leastIn_33 K J (nI x) (bI b) (fX8_leastIn_3 K J (nI x) (bI b) k) (nI i) M = if zany (fun j => zb J j && decide ((if b then j / 8 else j % 8) = i)) 64 = true then some (nI i) else fX8_leastIn_3 K J (nI x) (bI b) k (nI (i + 1)) := by
        intro M hM
        have kk := key M hM
        simp only [fX8_leastIn_33, zi_lit, zl_cmp0, zi_add]
        by_cases hz : zany (fun j => zb J j && decide ((if b then j / 8 else j % 8) = i)) 64 = true
        · rw [if_pos hz, if_neg (fun q => kk.mp q hz)]
        · rw [if_neg hz, if_pos (kk.mpr hz)]
      have main : fX8_leastIn_3 K J (nI x) (bI b) (k + 1) (nI i) = if zany (fun j => zb J j && decide ((if b then j / 8 else j % 8) = i)) 64 = true then some (nI i) else fX8_leastIn_3 K J (nI x) (bI b) k (nI (i + 1)) := by
        rw [fX8_leastIn_3]
        rw [if_neg (by rw [show (8 : Int32) = nI 8 from rfl, zi_le (by omega) (by omega)]; omega)]
        cases b
        · rw [if_pos (show bI false = 0 from rfl), step _ (fun j hj => by
            have := zb_colm ⟨i, hi⟩ ⟨j, hj⟩
            simp only at this
            rw [this]; simp)]
        · rw [if_neg (show ¬ bI true = 0 by decide), show (8 : Int32) = nI 8 from rfl, zi_mul, step _ (fun j hj => by
            have := zb_row ⟨i, hi⟩ ⟨j, hj⟩
            simp only at this
            rw [this]; simp)]
      rw [main]
      by_cases hp : zany (fun j => zb J j && decide ((if b then j / 8 else j % 8) = i)) 64 = true
      · right
        rw [if_pos hp] at hv
        refine ⟨nI i, ?_, by rw [if_pos hp]⟩
        rw [← hv]; unfold zres; rw [if_pos hi]
      · left
        rw [if_neg hp] at hv
        exact ⟨(), ⟨by omega, hv⟩, by rw [if_neg hp]⟩)
    (by
      intro k s hv
      obtain ⟨hxi, hv⟩ := hv
      refine ⟨_, rfl, ?_⟩
      rw [← hv]
      simp (disch := omega) only [fX8_leastIn_3, zi_lit, zi_le, zlst, Nat.sub_self]
      rw [if_pos (by omega)]; rfl)
    (8 - x) K x () (by omega) ⟨Nat.le_refl x, rfl⟩ (by omega)
  rw [hr] at e; exact e
