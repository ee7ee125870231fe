/-! the rows grown are closed under the rules -/
def zcl (R : Nat → Nat → Bool) (s : Nat → Nat) (M : Nat → Nat) (l : Nat) : Prop := ∀ t k, t < 5 → k < 512 → zgivs R s M l t k (zrn s) = true → R t k = true
theorem znw_cl {R : Nat → Nat → Bool} {s : Nat → Nat} {M : Nat → Nat} {l : Nat} : znw R s M l = false ↔ zcl R s M l := by
  rw [← Bool.not_eq_true, znw_iff]
  constructor
  · intro h t k ht hk g
    cases e : R t k
    · exact absurd ⟨t, k, ht, hk, g, e⟩ h
    · rfl
  · rintro h ⟨t, k, ht, hk, g1, g2⟩
    rw [h t k ht hk g1] at g2; exact absurd g2 (by decide)
theorem zstp_up {R : Nat → Nat → Bool} {s : Nat → Nat} {M : Nat → Nat} {l t k : Nat} (h : R t k = true) : zstp R s M l t k = true := by
  unfold zstp; rw [h]; rfl
theorem zstp_off {R : Nat → Nat → Bool} {s : Nat → Nat} {M : Nat → Nat} {l t : Nat} (h : M t ≠ l) (k : Nat) : zstp R s M l t k = R t k := by
  unfold zstp
  have : zgivs R s M l t k (zrn s) = false := by
    rw [← Bool.not_eq_true]
    intro g
    unfold zgivs at g
    rw [zany_iff] at g
    obtain ⟨r, _, g⟩ := g
    simp only [zwk, Bool.and_eq_true, decide_eq_true_eq] at g
    exact h (by rw [g.2.1]; exact g.1.2)
  rw [this, Bool.or_false]
theorem zrnd_up {s : Nat → Nat} {M : Nat → Nat} {l t k : Nat} : ∀ n b (z : (Nat → Nat → Bool) × Nat), z.1 t k = true → (zrnd s M l n b z).1 t k = true := by
  intro n
  induction n with
  | zero => intro b z h; exact h
  | succ n ih =>
    intro b z h
    cases b
    · rw [zrnd, if_neg (by decide)]; exact h
    · rw [zrnd, if_pos rfl]; exact ih _ _ (zstp_up h)
theorem zrnd_off {s : Nat → Nat} {M : Nat → Nat} {l t : Nat} (ht : M t ≠ l) (k : Nat) : ∀ n b (z : (Nat → Nat → Bool) × Nat), (zrnd s M l n b z).1 t k = z.1 t k := by
  intro n
  induction n with
  | zero => intro b z; rfl
  | succ n ih =>
    intro b z
    cases b
    · rw [zrnd, if_neg (by decide)]
    · rw [zrnd, if_pos rfl, ih]; exact zstp_off ht k
theorem zrnd_cl {s : Nat → Nat} (hs : zRul s) {M : Nat → Nat} {l : Nat} : ∀ n b (z : (Nat → Nat → Bool) × Nat), (b = false → zcl z.1 s M l) → (b = true → zF0 z.1 + 2 ≤ n) → zcl (zrnd s M l n b z).1 s M l := by
  intro n
  induction n with
  | zero =>
    intro b z h1 h2
    cases b
    · exact h1 rfl
    · have := h2 rfl; omega
  | succ n ih =>
    intro b z h1 h2
    cases b
    · rw [zrnd, if_neg (by decide)]; exact h1 rfl
    · rw [zrnd, if_pos rfl]
      apply ih
      · intro g
        have hc := znw_cl.mp g
        have he : zeqR (zstp z.1 s M l) z.1 := by
          intro t k ht hk
          unfold zstp
          cases e : z.1 t k
          · cases e2 : zgivs z.1 s M l t k (zrn s)
            · rfl
            · rw [hc t k ht hk e2] at e; exact e
          · rfl
        intro t k ht hk q
        rw [zgivs_cong he hs M l t k (Nat.le_refl _)] at q
        exact zstp_up (hc t k ht hk q)
      · intro g
        have := zF0_stp g
        have := h2 rfl
        show zF0 (zstp z.1 s M l) + 2 ≤ n
        omega
theorem zly_up {s : Nat → Nat} {M : Nat → Nat} {t k l : Nat} (h : zfacts s t k = true) : (zly s M l).1 t k = true := by
  induction l with
  | zero => exact h
  | succ l ih => rw [zly]; exact zrnd_up _ _ _ ih
theorem zly_cl {s : Nat → Nat} (hs : zRul s) (M : Nat → Nat) (l : Nat) : zcl (zly s M (l + 1)).1 s M l := by
  rw [zly]
  apply zrnd_cl hs
  · intro g t k ht hk q
    unfold zgivs at q
    rw [zany_iff] at q
    obtain ⟨r, hr, q⟩ := q
    rw [Bool.and_eq_true] at q
    have : zany (zwk s M l) (zrn s) = true := zany_iff.mpr ⟨r, hr, q.1⟩
    rw [g] at this; exact absurd this (by decide)
  · intro _
    have := zF0_le (zly s M l).1
    omega
theorem zly_off {s : Nat → Nat} {M : Nat → Nat} {t l : Nat} (ht : M t < l) (k : Nat) : ∀ d, (zly s M (l + d)).1 t k = (zly s M l).1 t k := by
  intro d
  induction d with
  | zero => rfl
  | succ d ih => rw [show l + (d + 1) = (l + d) + 1 by omega, zly, zrnd_off (by omega), ih]
theorem zfr_cong' {R R' : Nat → Nat → Bool} {s : Nat → Nat} (hs : zRul s) {r : Nat} (hr : r < zrn s) (h : ∀ i, i < zbn s r → ∀ k, k < 512 → R (zba s r i).1 k = R' (zba s r i).1 k) (y : Nat) : zfr R s r y = zfr R' s r y := by
  unfold zfr zgv
  apply zall_cong
  intro i hi
  have hA := ((hs.2 r hr).2.2 i hi).1
  rw [h i hi _ (zaR_lt (a := zba s r i) (zvr s r y) (fun v _ => Nat.mod_lt _ (by decide)) hA)]
theorem zly_closed {s : Nat → Nat} (hs : zRul s) {M : Nat → Nat} (hM : zLst (zE s) M) (hM4 : ∀ t, t < 5 → M t ≤ 4) {r k : Nat} (hr : r < zrn s) (hi : zidle s r = false) (hk : k < 512) (g : zgiv (zly s M 5).1 s r k = true) : (zly s M 5).1 (zrh s r).1 k = true := by
  have hh := (hs.2 r hr).1.1
  have h4 := hM4 _ hh
  have eq : ∀ t, M t < M (zrh s r).1 + 1 → ∀ k, (zly s M 5).1 t k = (zly s M (M (zrh s r).1 + 1)).1 t k := by
    intro t ht k
    have := zly_off (s := s) ht k (4 - M (zrh s r).1)
    rw [show M (zrh s r).1 + 1 + (4 - M (zrh s r).1) = 5 by omega] at this
    exact this
  have e1 : zgiv (zly s M 5).1 s r k = zgiv (zly s M (M (zrh s r).1 + 1)).1 s r k := by
    unfold zgiv
    apply zany_cong
    intro y _
    rw [zfr_cong' hs hr]
    intro i hi' k _
    have hE : zE s (zrh s r).1 (zba s r i).1 (zbN s r i).toNat := ⟨r, i, hr, hi', rfl, rfl, rfl⟩
    have := hM.1 _ _ _ hE
    exact eq _ (by omega) k
  rw [eq _ (by omega)]
  apply zly_cl hs M _ _ _ hh hk
  unfold zgivs
  rw [zany_iff]
  refine ⟨r, hr, ?_⟩
  rw [← e1, g]
  unfold zwk
  simp [hi]
theorem zly_Rz {s : Nat → Nat} (hs : zRul s) (hz : zRz (zfacts s) s) (M : Nat → Nat) : ∀ l, zRz (zly s M l).1 s := by
  have main : ∀ l n b (z : (Nat → Nat → Bool) × Nat), zRz z.1 s → zRz (zrnd s M l n b z).1 s := by
    intro l n
    induction n with
    | zero => intro b z h; exact h
    | succ n ih =>
      intro b z h
      cases b
      · rw [zrnd, if_neg (by decide)]; exact h
      · rw [zrnd, if_pos rfl]; exact ih _ _ (zRz_stp hs h M l)
  intro l
  induction l with
  | zero => exact hz
  | succ l ih => rw [zly]; exact main _ _ _ _ ih
theorem zttl_0 {s : Nat → Nat} (hs : zRul s) {M : Nat → Nat} (hM : zLst (zE s) M) (hM4 : ∀ t, t < 5 → M t ≤ 4) {t k : Nat} (hk : k < 512) (h : (zly s M 5).1 t k = false) : zttl (zly s M 5).1 s t k (zrn s) = 0 := by
  unfold zttl
  refine (zsum_cong (g := fun _ => 0) ?_).trans (zsum_0 _)
  intro r hr
  by_cases g : zidle s r = false ∧ t = (zrh s r).1
  · rw [if_pos g]
    unfold zfirk zcnt
    refine (zsum_cong (g := fun _ => 0) ?_).trans (zsum_0 _)
    intro y hy
    show (zfr (zly s M 5).1 s r y && decide (zro s r y = k)).toNat = 0
    cases e : (zfr (zly s M 5).1 s r y && decide (zro s r y = k))
    · rfl
    · have := zly_closed hs hM hM4 hr g.1 hk (zany_iff.mpr ⟨y, hy, e⟩)
      rw [← g.2, h] at this
      exact absurd this (by decide)
  · rw [if_neg g]
