/-! the square of the number of answers is at most the bound; covers, trees -/
/-- how a product, as x goes from 0 to n, is held under B: by nothing (0), by one factor that sums up (1), by two (2 and more) -/
def yg_b (n : Nat) (P : Nat → Nat) (B : Nat) : Nat → Prop
  | 0 => ∀ x, x < n → P x ≤ B
  | 1 => ∃ K A, ∃ a : Nat → Nat, (∀ x, x < n → P x ≤ K * a x) ∧ zsum a n ≤ A ∧ K * A ≤ B
  | _ + 2 => ∃ K A C, ∃ a b : Nat → Nat, (∀ x, x < n → P x ≤ K * (a x * b x)) ∧ zsum a n ≤ A ∧ zsum b n ≤ C ∧ K * (A * C) ≤ B
theorem yg_mem {f : Nat → Nat} : ∀ {n x : Nat}, x < n → f x ≤ zsum f n
  | 0, _, h => absurd h (Nat.not_lt_zero _)
  | n + 1, x, h => by
    show f x ≤ zsum f n + f n
    rcases Nat.lt_or_ge x n with h1 | h1
    · have := yg_mem (f := f) h1
      omega
    · have : x = n := by omega
      subst this
      omega
theorem yg_sup {n : Nat} {P f : Nat → Nat} {B F : Nat} (hf : ∀ x, x < n → f x ≤ F) : ∀ {c : Nat}, yg_b n P B c → yg_b n (fun x => P x * f x) (B * F) c
  | 0, h => fun x hx => Nat.mul_le_mul (h x hx) (hf x hx)
  | 1, ⟨K, A, a, h1, h2, h3⟩ => ⟨K * F, A, a, fun x hx => by
      have g := Nat.mul_le_mul (h1 x hx) (hf x hx)
      rw [Nat.mul_right_comm K F (a x)]
      exact g, h2, by
      rw [Nat.mul_right_comm K F A]
      exact Nat.mul_le_mul h3 (Nat.le_refl F)⟩
  | _ + 2, ⟨K, A, C, a, b, h1, h2, h3, h4⟩ => ⟨K * F, A, C, a, b, fun x hx => by
      have g := Nat.mul_le_mul (h1 x hx) (hf x hx)
      rw [Nat.mul_right_comm K F (a x * b x)]
      exact g, h2, h3, by
      rw [Nat.mul_right_comm K F (A * C)]
      exact Nat.mul_le_mul h4 (Nat.le_refl F)⟩
theorem yg_add {n : Nat} {P f : Nat → Nat} {B F : Nat} (hf : zsum f n ≤ F) : ∀ {c : Nat}, yg_b n P B c → yg_b n (fun x => P x * f x) (B * F) (c + 1)
  | 0, h => ⟨B, F, f, fun x hx => Nat.mul_le_mul (h x hx) (Nat.le_refl _), hf, Nat.le_refl _⟩
  | 1, ⟨K, A, a, h1, h2, h3⟩ => ⟨K, A, F, a, f, fun x hx => by
      rw [← Nat.mul_assoc]
      exact Nat.mul_le_mul (h1 x hx) (Nat.le_refl _), h2, hf, by
      rw [← Nat.mul_assoc]
      exact Nat.mul_le_mul h3 (Nat.le_refl _)⟩
  | _ + 2, h => yg_sup (fun x hx => Nat.le_trans (yg_mem hx) hf) h
/-- a factor to the power of its halves -/
theorem yg_supN {n : Nat} {P f : Nat → Nat} {B F c : Nat} (hf : ∀ x, x < n → f x ≤ F) (h : yg_b n P B c) : ∀ k, yg_b n (fun x => P x * f x ^ k) (B * F ^ k) c := by
  intro k
  induction k with
  | zero =>
    rw [Nat.pow_zero, Nat.mul_one]
    rw [show (fun x => P x * f x ^ 0) = P from funext fun x => by rw [Nat.pow_zero, Nat.mul_one]]
    exact h
  | succ k ih =>
    have g := yg_sup hf ih
    rw [Nat.pow_succ, ← Nat.mul_assoc]
    rw [show (fun x => P x * f x ^ (k + 1)) = (fun x => P x * f x ^ k * f x) from funext fun x => by rw [Nat.pow_succ, ← Nat.mul_assoc]]
    exact g
theorem yg_addN {n : Nat} {P f : Nat → Nat} {B F c : Nat} (hf : zsum f n ≤ F) (h : yg_b n P B c) : ∀ k, yg_b n (fun x => P x * f x ^ k) (B * F ^ k) (c + k) := by
  intro k
  induction k with
  | zero =>
    rw [Nat.pow_zero, Nat.mul_one, Nat.add_zero]
    rw [show (fun x => P x * f x ^ 0) = P from funext fun x => by rw [Nat.pow_zero, Nat.mul_one]]
    exact h
  | succ k ih =>
    have g := yg_add hf ih
    rw [Nat.pow_succ, ← Nat.mul_assoc, ← Nat.add_assoc]
    rw [show (fun x => P x * f x ^ (k + 1)) = (fun x => P x * f x ^ k * f x) from funext fun x => by rw [Nat.pow_succ, ← Nat.mul_assoc]]
    exact g
/-- the mean of two -/
theorem yg_mean {t X Y : Nat} (h : t * t ≤ X * Y) : 2 * t ≤ X + Y := by
  have key : ∀ a e : Nat, t * t ≤ a * (a + e) → 2 * t ≤ a + (a + e) := by
    intro a e h
    rcases Nat.lt_or_ge (a + (a + e)) (2 * t) with g | g
    · exfalso
      have g2 : (a + (a + e) + 1) * (a + (a + e) + 1) ≤ (2 * t) * (2 * t) := Nat.mul_le_mul g g
      have e1 : (2 * t) * (2 * t) = 4 * (t * t) := by rw [Nat.mul_mul_mul_comm]
      have e2 : (a + (a + e) + 1) * (a + (a + e) + 1) = 4 * (a * (a + e)) + e * e + 2 * (a + (a + e)) + 1 := by
        simp only [Nat.mul_add, Nat.add_mul, Nat.mul_one, Nat.one_mul]
        have c := Nat.mul_comm a e
        generalize a * a = p at *
        generalize a * e = q at *
        generalize e * a = r at *
        generalize e * e = u at *
        omega
      rw [e1, e2] at g2
      generalize t * t = T at *
      generalize a * (a + e) = S at *
      generalize e * e = U at *
      omega
    · exact g
  rcases Nat.le_total X Y with h1 | h1
  · obtain ⟨e, rfl⟩ := Nat.le.dest h1
    exact key X e h
  · obtain ⟨e, rfl⟩ := Nat.le.dest h1
    have := key Y e (by rw [Nat.mul_comm Y (Y + e)]; exact h)
    omega
/-- Cauchy and Schwarz, with a factor ahead -/
theorem yg_cs {q a b : Nat → Nat} {K : Nat} : ∀ n, (∀ x, x < n → q x * q x ≤ K * (a x * b x)) → zsum q n * zsum q n ≤ K * (zsum a n * zsum b n)
  | 0, _ => Nat.zero_le _
  | n + 1, h => by
    have ih := yg_cs n (fun x hx => h x (by omega))
    have h1 := h n (by omega)
    show (zsum q n + q n) * (zsum q n + q n) ≤ K * ((zsum a n + a n) * (zsum b n + b n))
    generalize zsum q n = Q at *
    generalize zsum a n = A at *
    generalize zsum b n = B at *
    generalize q n = x at *
    generalize a n = y at *
    generalize b n = z at *
    have m : 2 * (Q * x) ≤ K * (A * z) + K * (y * B) := by
      apply yg_mean
      have g := Nat.mul_le_mul ih h1
      have e1 : Q * x * (Q * x) = Q * Q * (x * x) := Nat.mul_mul_mul_comm Q x Q x
      have e2 : K * (A * z) * (K * (y * B)) = K * (A * B) * (K * (y * z)) := by ac_rfl
      rw [e1, e2]
      exact g
    have e3 : (Q + x) * (Q + x) = Q * Q + 2 * (Q * x) + x * x := by
      rw [Nat.mul_add, Nat.add_mul, Nat.add_mul, Nat.mul_comm x Q]
      generalize Q * Q = p
      generalize Q * x = r
      generalize x * x = u
      omega
    have e4 : K * ((A + y) * (B + z)) = K * (A * B) + (K * (A * z) + K * (y * B)) + K * (y * z) := by
      rw [Nat.mul_add, Nat.add_mul, Nat.add_mul, Nat.mul_add, Nat.mul_add, Nat.mul_add]
      generalize K * (A * B) = p
      generalize K * (A * z) = r
      generalize K * (y * B) = u
      generalize K * (y * z) = w
      omega
    rw [e3, e4]
    omega
theorem yg_two {n : Nat} {q P : Nat → Nat} {B c : Nat} (h : yg_b n P B (c + 2)) (hq : ∀ x, x < n → q x * q x ≤ P x) : zsum q n * zsum q n ≤ B := by
  obtain ⟨K, A, C, a, b, h1, h2, h3, h4⟩ := h
  have g := yg_cs n (fun x hx => Nat.le_trans (hq x hx) (h1 x hx))
  exact Nat.le_trans g (Nat.le_trans (Nat.mul_le_mul (Nat.le_refl K) (Nat.mul_le_mul h2 h3)) h4)
/-- the product over the atoms, of a size to the power of its halves -/
def yg_p (f : Nat → Nat) (h : Nat → Nat) : Nat → Nat
  | 0 => 1
  | i + 1 => yg_p f h i * f i ^ h i
/-- the product over the atoms as one variable goes through its values: f i x the sizes then, F i ahead, I those with the variable -/
theorem yg_all (n : Nat) (f : Nat → Nat → Nat) (F h : Nat → Nat) (I : Nat → Bool) : ∀ m, (∀ i, i < m → I i = true → zsum (f i) n ≤ F i) → (∀ i, i < m → I i = false → ∀ x, x < n → f i x ≤ F i) →
    yg_b n (fun x => yg_p (fun i => f i x) h m) (yg_p F h m) (zsum (fun i => if I i = true then h i else 0) m)
  | 0, _, _ => fun _ _ => Nat.le_refl _
  | m + 1, h1, h2 => by
    have ih := yg_all n f F h I m (fun i hi => h1 i (by omega)) (fun i hi => h2 i (by omega))
    show yg_b n (fun x => yg_p (fun i => f i x) h m * f m x ^ h m) (yg_p F h m * F m ^ h m) (zsum (fun i => if I i = true then h i else 0) m + if I m = true then h m else 0)
    cases e : I m with
    | true =>
      rw [if_pos rfl]
      exact yg_addN (h1 m (by omega) e) ih (h m)
    | false =>
      rw [if_neg (by decide), Nat.add_zero]
      exact yg_supN (h2 m (by omega) e) ih (h m)
/-- how many values of the variables from v on (l of them) fit -/
def yg_q (T : (Nat → Nat) → Bool) (D : Nat → Nat) : Nat → Nat → (Nat → Nat) → Nat
  | 0, _, d => (T d).toNat
  | l + 1, v, d => zsum (fun x => yg_q T D l (v + 1) (zup d v x)) (D v)
/-- a row that agrees with the values of the variables ahead of v -/
def yg_at (a : zA) (v : Nat) (d : Nat → Nat) (k : Nat) : Bool :=
  (decide (v ≤ a.2.2.1) || decide (zcol k 0 = d a.2.2.1)) && (decide (a.2.1 ≤ 1) || (decide (v ≤ a.2.2.2.1) || decide (zcol k 1 = d a.2.2.2.1))) && (decide (a.2.1 ≤ 2) || (decide (v ≤ a.2.2.2.2) || decide (zcol k 2 = d a.2.2.2.2)))
def yg_s (R : Nat → Nat → Bool) (a : zA) (v : Nat) (d : Nat → Nat) : Nat := zcnt (fun k => (R a.1 k && zaG a k) && yg_at a v d k) 512
theorem yg_at0 (a : zA) (d : Nat → Nat) (k : Nat) : yg_at a 0 d k = true := by
  unfold yg_at
  simp only [Nat.zero_le, decide_true, Bool.true_or, Bool.or_true, Bool.and_true]
theorem yg_s0 (R : Nat → Nat → Bool) (a : zA) (d : Nat → Nat) : yg_s R a 0 d = zsz R a := zcnt_cong (fun k _ => by rw [yg_at0, Bool.and_true])
theorem yg_ne {u v : Nat} (h : u ≠ v) (d : Nat → Nat) (x c : Nat) : (decide (v ≤ u) || decide (c = d u)) = (decide (v + 1 ≤ u) || decide (c = zup d v x u)) := by
  have e : zup d v x u = d u := by rw [zq_at, if_neg h]
  rw [e, show decide (v ≤ u) = decide (v + 1 ≤ u) from decide_eq_decide.mpr ⟨fun g => by omega, fun g => by omega⟩]
theorem yg_no {a : zA} {v : Nat} (h : zaH a v = false) (d : Nat → Nat) (x k : Nat) : yg_at a v d k = yg_at a (v + 1) (zup d v x) k := by
  unfold zaH at h
  simp only [Bool.or_eq_false_iff, Bool.and_eq_false_iff, decide_eq_false_iff_not] at h
  obtain ⟨⟨h0, h1⟩, h2⟩ := h
  unfold yg_at
  rw [← yg_ne h0 d x]
  congr 1
  · congr 1
    rcases Nat.lt_or_ge 1 a.2.1 with g | g
    · rw [yg_ne (h1.resolve_left (by omega)) d x]
    · rw [decide_eq_true g, Bool.true_or, Bool.true_or]
  · rcases Nat.lt_or_ge 2 a.2.1 with g | g
    · rw [yg_ne (h2.resolve_left (by omega)) d x]
    · rw [decide_eq_true g, Bool.true_or, Bool.true_or]
theorem yg_sno {R : Nat → Nat → Bool} {a : zA} {v : Nat} (h : zaH a v = false) (d : Nat → Nat) (x : Nat) : yg_s R a (v + 1) (zup d v x) = yg_s R a v d := zcnt_cong (fun k _ => by rw [yg_no h d x k])
theorem yg_key {u v : Nat} {d : Nat → Nat} {x c : Nat} (h : v + 1 ≤ u ∨ c = zup d v x u) : (v ≤ u ∨ c = d u) ∧ (u = v → c = x) := by
  rw [zq_at] at h
  by_cases e : u = v
  · rw [if_pos e] at h
    exact ⟨Or.inl (by omega), fun _ => h.resolve_left (by omega)⟩
  · rw [if_neg e] at h
    exact ⟨h.imp (fun g => by omega) id, fun g => absurd g e⟩
theorem yg_yes {a : zA} {v : Nat} (h : zaH a v = true) {d : Nat → Nat} {x k : Nat} (g : yg_at a (v + 1) (zup d v x) k = true) : yg_at a v d k = true ∧ x = zcol k (zcv a v) := by
  unfold yg_at at g ⊢
  simp only [Bool.and_eq_true, Bool.or_eq_true, decide_eq_true_eq] at g ⊢
  obtain ⟨⟨g0, g1⟩, g2⟩ := g
  refine ⟨⟨⟨(yg_key g0).1, g1.imp id (fun w => (yg_key w).1)⟩, g2.imp id (fun w => (yg_key w).1)⟩, ?_⟩
  unfold zaH at h
  simp only [Bool.or_eq_true, Bool.and_eq_true, decide_eq_true_eq] at h
  unfold zcv
  by_cases c0 : a.2.2.1 = v
  · rw [if_pos c0]
    exact ((yg_key g0).2 c0).symm
  · rw [if_neg c0]
    by_cases c1 : 1 < a.2.1 ∧ a.2.2.2.1 = v
    · rw [if_pos c1]
      exact ((yg_key (g1.resolve_left (by omega))).2 c1.2).symm
    · rw [if_neg c1]
      have c2 := (h.resolve_left (fun w => w.elim c0 c1))
      exact ((yg_key (g2.resolve_left (by omega))).2 c2.2).symm
theorem yg_one {P : Nat → Bool} {Q : Bool} {c : Nat} (h : ∀ x, P x = true → Q = true ∧ x = c) : ∀ n, zsum (fun x => (P x).toNat) n ≤ if c < n then Q.toNat else 0
  | 0 => Nat.zero_le _
  | n + 1 => by
    have ih := yg_one h n
    show zsum (fun x => (P x).toNat) n + (P n).toNat ≤ _
    cases e : P n with
    | false =>
      rw [Bool.toNat_false, Nat.add_zero]
      refine Nat.le_trans ih ?_
      by_cases g : c < n
      · rw [if_pos g, if_pos (by omega)]
        exact Nat.le_refl _
      · rw [if_neg g]
        exact Nat.zero_le _
    | true =>
      obtain ⟨h1, h2⟩ := h n e
      rw [if_neg (by omega)] at ih
      rw [if_pos (by omega), h1]
      omega
theorem yg_syes {R : Nat → Nat → Bool} {a : zA} {v : Nat} (h : zaH a v = true) (d : Nat → Nat) (n : Nat) : zsum (fun x => yg_s R a (v + 1) (zup d v x)) n ≤ yg_s R a v d := by
  unfold yg_s zcnt
  rw [zsum_swap]
  refine zsum_le (fun k _ => ?_)
  refine Nat.le_trans (yg_one (Q := (R a.1 k && zaG a k) && yg_at a v d k) (c := zcol k (zcv a v)) ?_ n) (by split; exact Nat.le_refl _; exact Nat.zero_le _)
  intro x g
  rw [Bool.and_eq_true] at g ⊢
  exact ⟨⟨g.1, (yg_yes h g.2).1⟩, (yg_yes h g.2).2⟩
/-- all values are chosen: an atom that fits has a row -/
theorem yg_s4 {R : Nat → Nat → Bool} {a : zA} (ha : zaOK a) {d : Nat → Nat} (hd : ∀ v, v < 4 → d v < 8) (h : R a.1 (zaR a d) = true) (v : Nat) : 1 ≤ yg_s R a v d := by
  have c0 := zaR_col ha hd (c := 0) (by decide)
  have c1 := zaR_col ha hd (c := 1) (by decide)
  have c2 := zaR_col ha hd (c := 2) (by decide)
  have hw := ha.2.1
  rw [if_pos (by omega)] at c0
  refine zcnt_pos.mpr ⟨zaR a d, ?_, ?_⟩
  · have x0 := hd _ ha.2.2.2.1
    have x1 := hd _ ha.2.2.2.2.1
    have x2 := hd _ ha.2.2.2.2.2
    unfold zaR
    split <;> split <;> omega
  · have d0 : zcol (zaR a d) 0 = d a.2.2.1 := c0
    have d1 : 1 < a.2.1 → zcol (zaR a d) 1 = d a.2.2.2.1 := fun g => by rw [if_pos g] at c1; exact c1
    have d2 : 2 < a.2.1 → zcol (zaR a d) 2 = d a.2.2.2.2 := fun g => by rw [if_pos g] at c2; exact c2
    rw [Bool.and_eq_true, Bool.and_eq_true]
    refine ⟨⟨h, ?_⟩, ?_⟩
    · unfold zaG
      rw [decide_eq_true_eq]
      exact ⟨fun g e => by rw [d1 g, d0, e], fun g e => by rw [d2 g, d0, e], fun g e => by rw [d2 g, d1 (by omega), e]⟩
    · unfold yg_at
      simp only [Bool.and_eq_true, Bool.or_eq_true, decide_eq_true_eq]
      exact ⟨⟨Or.inr d0, by rcases Nat.lt_or_ge 1 a.2.1 with g | g; exact Or.inr (Or.inr (d1 g)); exact Or.inl g⟩, by rcases Nat.lt_or_ge 2 a.2.1 with g | g; exact Or.inr (Or.inr (d2 g)); exact Or.inl g⟩
theorem yg_p1 {f h : Nat → Nat} : ∀ {m : Nat}, (∀ i, i < m → 1 ≤ f i) → 1 ≤ yg_p f h m
  | 0, _ => Nat.le_refl 1
  | m + 1, g => Nat.mul_pos (yg_p1 (fun i hi => g i (by omega))) (Nat.one_le_pow _ _ (g m (by omega)))
theorem yg_pcong {f g h : Nat → Nat} : ∀ {m : Nat}, (∀ i, i < m → f i = g i) → yg_p f h m = yg_p g h m
  | 0, _ => rfl
  | m + 1, e => by
    show yg_p f h m * f m ^ h m = yg_p g h m * g m ^ h m
    rw [yg_pcong (fun i hi => e i (by omega)), e m (by omega)]
/-- the bound: T d says that all atoms fit; a variable that stands in no atom has one value; of one that stands the halves are two or more -/
theorem yg_bound {R : Nat → Nat → Bool} {A : Nat → zA} {m : Nat} (hA : ∀ i, i < m → zaOK (A i)) {D h : Nat → Nat} {T : (Nat → Nat) → Bool} (hT : ∀ d, (∀ v, v < 4 → d v < 8) → T d = true → ∀ i, i < m → R (A i).1 (zaR (A i) d) = true) (hD : ∀ v, v < 4 → D v ≤ 8)
    (hc : ∀ v, v < 4 → D v ≤ 1 ∨ 2 ≤ zsum (fun i => if zaH (A i) v = true then h i else 0) m) :
    ∀ l v d, v + l = 4 → (∀ u, u < 4 → d u < 8) → yg_q T D l v d * yg_q T D l v d ≤ yg_p (fun i => yg_s R (A i) v d) h m := by
  intro l
  induction l with
  | zero =>
    intro v d _ hd
    show (T d).toNat * (T d).toNat ≤ _
    cases e : T d with
    | false => exact Nat.zero_le _
    | true => exact yg_p1 (fun i hi => yg_s4 (hA i hi) hd (hT d hd e i hi) v)
  | succ l ih =>
    intro v d hv hd
    have hv4 : v < 4 := by omega
    have hx : ∀ x, x < D v → ∀ u, u < 4 → zup d v x u < 8 := by
      intro x hx u hu
      rw [zq_at]
      have := hD v hv4
      by_cases e : u = v
      · rw [if_pos e]; omega
      · rw [if_neg e]; exact hd u hu
    have hq : ∀ x, x < D v → yg_q T D l (v + 1) (zup d v x) * yg_q T D l (v + 1) (zup d v x) ≤ yg_p (fun i => yg_s R (A i) (v + 1) (zup d v x)) h m := fun x g => ih (v + 1) (zup d v x) (by omega) (hx x g)
    have hb := yg_all (D v) (fun i x => yg_s R (A i) (v + 1) (zup d v x)) (fun i => yg_s R (A i) v d) h (fun i => zaH (A i) v) m (fun i _ e => yg_syes e d (D v)) (fun i _ e x _ => Nat.le_of_eq (yg_sno e d x))
    show zsum (fun x => yg_q T D l (v + 1) (zup d v x)) (D v) * zsum (fun x => yg_q T D l (v + 1) (zup d v x)) (D v) ≤ _
    rcases hc v hv4 with g | g
    · -- one value at most: what it has is what all have
      rcases Nat.lt_or_ge 0 (D v) with g0 | g0
      · have e1 : D v = 1 := by omega
        have q0 := hq 0 g0
        rw [e1]
        show (0 + yg_q T D l (v + 1) (zup d v 0)) * (0 + yg_q T D l (v + 1) (zup d v 0)) ≤ _
        rw [Nat.zero_add]
        refine Nat.le_trans q0 ?_
        have mono : ∀ m', m' ≤ m → yg_p (fun i => yg_s R (A i) (v + 1) (zup d v 0)) h m' ≤ yg_p (fun i => yg_s R (A i) v d) h m' := by
          intro m'
          induction m' with
          | zero => intro _; show 1 ≤ 1; exact Nat.le_refl 1
          | succ m' ih2 =>
            intro hm
            refine Nat.mul_le_mul (ih2 (by omega)) (Nat.pow_le_pow_left ?_ _)
            cases e : zaH (A m') v with
            | true =>
              have g1 := yg_syes (R := R) e d 1
              have g2 : zsum (fun x => yg_s R (A m') (v + 1) (zup d v x)) 1 = 0 + yg_s R (A m') (v + 1) (zup d v 0) := rfl
              show yg_s R (A m') (v + 1) (zup d v 0) ≤ yg_s R (A m') v d
              omega
            | false => exact Nat.le_of_eq (yg_sno e d 0)
        exact mono m (Nat.le_refl m)
      · have e0 : D v = 0 := by omega
        rw [e0]
        exact Nat.zero_le _
    · obtain ⟨c, hc2⟩ := Nat.le.dest g
      rw [show zsum (fun i => if zaH (A i) v = true then h i else 0) m = c + 2 by omega] at hb
      exact yg_two hb hq
theorem yg_prs {sz : Nat → Nat} {n : Nat} : ∀ m, (∀ i, i < m → zh n i ≠ 0 → 1 ≤ sz i) → zpr sz n m = yg_p sz (zh n) m ∨ (zpr sz n m = zMAX ∧ zMAX ≤ yg_p sz (zh n) m)
  | 0, _ => Or.inl rfl
  | m + 1, h => by
    have ih := yg_prs m (fun i hi => h i (by omega))
    show zit (sz m) (zpr sz n m) (zh n m) = yg_p sz (zh n) m * sz m ^ zh n m ∨ (zit (sz m) (zpr sz n m) (zh n m) = zMAX ∧ zMAX ≤ yg_p sz (zh n) m * sz m ^ zh n m)
    have key : ∀ k, k ≤ zh n m → zit (sz m) (zpr sz n m) k = yg_p sz (zh n) m * sz m ^ k ∨ (zit (sz m) (zpr sz n m) k = zMAX ∧ zMAX ≤ yg_p sz (zh n) m * sz m ^ k) := by
      intro k
      induction k with
      | zero =>
        intro _
        rw [Nat.pow_zero, Nat.mul_one]
        exact ih
      | succ k ih2 =>
        intro hk
        have hz : 1 ≤ sz m := h m (by omega) (by omega)
        rw [Nat.pow_succ, ← Nat.mul_assoc]
        show zsat (zit (sz m) (zpr sz n m) k) (sz m) = _ ∨ (zsat (zit (sz m) (zpr sz n m) k) (sz m) = zMAX ∧ _)
        rcases ih2 (by omega) with e | ⟨e, g⟩
        · rw [e]
          unfold zsat
          by_cases c : yg_p sz (zh n) m * sz m ^ k * sz m ≤ zMAX
          · rw [if_pos c]; exact Or.inl rfl
          · rw [if_neg c]; exact Or.inr ⟨rfl, by omega⟩
        · rw [e]
          have g2 : zMAX ≤ yg_p sz (zh n) m * sz m ^ k * sz m := Nat.le_trans g (Nat.le_mul_of_pos_right _ hz)
          refine Or.inr ⟨?_, g2⟩
          unfold zsat
          by_cases c : zMAX * sz m ≤ zMAX
          · rw [if_pos c]
            exact Nat.le_antisymm c (Nat.le_mul_of_pos_right _ hz)
          · rw [if_neg c]
    exact key (zh n m) (Nat.le_refl _)
/-- a size 0 with halves makes the product 0, on both sides -/
theorem yg_p0 {f h : Nat → Nat} {i : Nat} (hf : f i = 0) (hh : h i ≠ 0) : ∀ {m : Nat}, i < m → yg_p f h m = 0
  | 0, g => absurd g (Nat.not_lt_zero _)
  | m + 1, g => by
    show yg_p f h m * f m ^ h m = 0
    rcases Nat.lt_or_ge i m with e | e
    · rw [yg_p0 hf hh e, Nat.zero_mul]
    · have : i = m := by omega
      subst this
      obtain ⟨k, hk⟩ : ∃ k, h i = k + 1 := ⟨h i - 1, by omega⟩
      rw [hf, hk, Nat.pow_succ, Nat.mul_zero, Nat.mul_zero]
/-- what is at most each product (and at most the greatest number) is at most the least bound -/
theorem yg_lP {A : Nat → zA} {sz : Nat → Nat} {m X : Nat} (hX : X ≤ zMAX) (h : ∀ n, zkv A m n = true → X ≤ yg_p sz (zh n) m) : ∀ n, X ≤ zlP A sz m n
  | 0 => hX
  | n + 1 => by
    have ih := yg_lP hX h n
    rw [zlP]
    split
    · rename_i c
      have g := h n c.1
      by_cases z : ∃ i, i < m ∧ zh n i ≠ 0 ∧ sz i = 0
      · obtain ⟨i, hi, h1, h2⟩ := z
        rw [yg_p0 h2 h1 hi] at g
        omega
      · rcases yg_prs (sz := sz) (n := n) m (fun i hi hn => by
            rcases Nat.eq_zero_or_pos (sz i) with e | e
            · exact absurd ⟨i, hi, hn, e⟩ z
            · exact e) with e | ⟨e, _⟩
        · rw [e]; exact g
        · rw [e]; exact hX
    · exact ih
/-- the places of the digits from a variable on -/
def zyw (V v n u : Nat) : Nat := if V.testBit u = true then n / 8 ^ (zpc 123 V u - zpc 123 V v) % 8 else 0
theorem yq_count {T : (Nat → Nat) → Bool} (hT : ∀ d d' : Nat → Nat, (∀ u, u < 4 → d u = d' u) → T d = T d') (V : Nat) : ∀ l v d, v + l = 4 → yg_q T (fun u => if V.testBit u = true then 8 else 1) l v d = zsum (fun n => (T (fun u => if u < v then d u else zyw V v n u)).toNat) (8 ^ (zpc 123 V 4 - zpc 123 V v)) := by
  intro l
  induction l with
  | zero =>
    intro v d hv
    have hv4 : v = 4 := by omega
    subst hv4
    rw [Nat.sub_self, Nat.pow_zero]
    show (T d).toNat = 0 + (T (fun u => if u < 4 then d u else zyw V 4 0 u)).toNat
    rw [Nat.zero_add, hT (fun u => if u < 4 then d u else zyw V 4 0 u) d (fun u hu => if_pos hu)]
  | succ l ih =>
    intro v d hv
    have hv4 : v < 4 := by omega
    have hz : zod 123 v = v := zod_123 v hv4
    show zsum (fun x => yg_q T (fun u => if V.testBit u = true then 8 else 1) l (v + 1) (zup d v x)) (if V.testBit v = true then 8 else 1) = _
    have e1 : zsum (fun x => yg_q T (fun u => if V.testBit u = true then 8 else 1) l (v + 1) (zup d v x)) (if V.testBit v = true then 8 else 1) = zsum (fun x => zsum (fun n => (T (fun u => if u < v + 1 then zup d v x u else zyw V (v + 1) n u)).toNat) (8 ^ (zpc 123 V 4 - zpc 123 V (v + 1)))) (if V.testBit v = true then 8 else 1) := zsum_cong (fun x _ => ih (v + 1) (zup d v x) (by omega))
    rw [e1]
    have hm4 := zpc_mono 123 V (show v + 1 ≤ 4 by omega)
    cases hb : V.testBit v
    · rw [if_neg (by decide)]
      have ec : zpc 123 V (v + 1) = zpc 123 V v := by rw [zpc, hz, hb]; rfl
      show 0 + zsum (fun n => (T (fun u => if u < v + 1 then zup d v 0 u else zyw V (v + 1) n u)).toNat) (8 ^ (zpc 123 V 4 - zpc 123 V (v + 1))) = _
      rw [Nat.zero_add, ec]
      apply zsum_cong
      intro n _
      congr 1
      apply hT
      intro u hu
      by_cases g : u < v
      · rw [if_pos (by omega), if_pos g, zup_ne _ _ (by omega)]
      · rw [if_neg g]
        by_cases g2 : u = v
        · rw [if_pos (by omega), g2, zup_at]
          unfold zyw
          rw [hb, if_neg (by decide)]
        · rw [if_neg (by omega)]
          unfold zyw
          rw [ec]
    · rw [if_pos rfl]
      have ec : zpc 123 V (v + 1) = zpc 123 V v + 1 := by rw [zpc, hz, hb]; rfl
      have ep : 8 ^ (zpc 123 V 4 - zpc 123 V v) = 8 * 8 ^ (zpc 123 V 4 - zpc 123 V (v + 1)) := by
        rw [ec, ← Nat.pow_succ', show (zpc 123 V 4 - (zpc 123 V v + 1)).succ = zpc 123 V 4 - zpc 123 V v by omega]
      rw [ep, zsum_mul, zsum_swap]
      apply zsum_cong
      intro n _
      apply zsum_cong
      intro x hx
      congr 1
      apply hT
      intro u hu
      by_cases g : u < v
      · rw [if_pos (by omega), if_pos g, zup_ne _ _ (by omega)]
      · rw [if_neg g]
        by_cases g2 : u = v
        · rw [if_pos (by omega), g2, zup_at]
          unfold zyw
          rw [hb, if_pos rfl, Nat.sub_self, Nat.pow_zero, Nat.div_one]
          omega
        · rw [if_neg (by omega)]
          unfold zyw
          by_cases g3 : V.testBit u = true
          · rw [if_pos g3, if_pos g3]
            have hmu := zpc_mono 123 V (show v + 1 ≤ u by omega)
            have e8 : (8 * n + x) / 8 ^ (zpc 123 V u - zpc 123 V v) = n / 8 ^ (zpc 123 V u - zpc 123 V (v + 1)) := by
              rw [show zpc 123 V u - zpc 123 V v = (zpc 123 V u - zpc 123 V (v + 1)) + 1 by omega, Nat.pow_succ', ← Nat.div_div_eq_div_mul, show (8 * n + x) / 8 = n by omega]
            rw [e8]
          · rw [if_neg g3, if_neg g3]
theorem zy_square {R : Nat → Nat → Bool} {s : Nat → Nat} {q : Nat} (h1 : zQ s q) (h2 : zOr (zqo s q)) (hn : 0 < zqn s q) : zcnt (zqP R s q) 4096 * zcnt (zqP R s q) 4096 ≤ zlP (zqa s q) (fun i => zsz R (zqa s q i)) (zqn s q) (3 ^ zqn s q) := by
  have hcl := zcnt_le (zqP R s q) 4096
  have hQm : zyQm s q (zqa s q) (zqn s q) := ⟨fun i hi => ⟨i, hi, rfl⟩, fun i hi => ⟨i, hi, rfl⟩⟩
  have hdue := zy_due (R := R) hQm h1 h2 hn
  have hTc : ∀ d d' : Nat → Nat, (∀ u, u < 4 → d u = d' u) → zall (fun i => R (zqa s q i).1 (zaR (zqa s q i) d)) (zqn s q) = zall (fun i => R (zqa s q i).1 (zaR (zqa s q i) d')) (zqn s q) := by
    intro d d' e
    apply zall_cong
    intro i hi
    rw [zaR_cong4 (h1.2 i hi) e]
  have hq := yq_count hTc (zqv s q) 4 0 (fun _ => 0) rfl
  have hcount : yg_q (fun d => zall (fun i => R (zqa s q i).1 (zaR (zqa s q i) d)) (zqn s q)) (fun u => if (zqv s q).testBit u = true then 8 else 1) 4 0 (fun _ => 0) = zcnt (zqP R s q) 4096 := by
    rw [hq, ← hdue, show zpc 123 (zqv s q) 0 = 0 from rfl, Nat.sub_zero]
    apply zsum_cong
    intro n _
    rfl
  refine yg_lP (Nat.le_trans (Nat.mul_le_mul hcl hcl) (by unfold zMAX; decide)) ?_ _
  intro n hcov
  rw [← hcount]
  have hb := yg_bound (R := R) (A := zqa s q) (m := zqn s q) h1.2 (D := fun u => if (zqv s q).testBit u = true then 8 else 1) (h := zh n) (T := fun d => zall (fun i => R (zqa s q i).1 (zaR (zqa s q i) d)) (zqn s q)) (fun d _ g i hi => zall_iff.1 g i hi) (fun v _ => by show (if _ then 8 else 1) ≤ 8; split <;> omega)
    (by
      intro v hv
      show (if (zqv s q).testBit v = true then 8 else 1) ≤ 1 ∨ _
      by_cases g : (zqv s q).testBit v = true
      · right
        unfold zkv at hcov
        have := zall_iff.1 hcov v hv
        rw [Bool.or_eq_true, Bool.not_eq_true', decide_eq_true_eq, ← zqv_bit h1 hv, g] at this
        rcases this with h | h
        · cases h
        · exact h
      · left
        rw [if_neg g]
        exact Nat.le_refl 1)
    4 0 (fun _ => 0) rfl (fun _ _ => by omega)
  refine Nat.le_trans hb ?_
  rw [yg_pcong (f := fun i => yg_s R (zqa s q i) 0 (fun _ => 0)) (g := fun i => zsz R (zqa s q i)) (fun i _ => yg_s0 R (zqa s q i) (fun _ => 0))]
  exact Nat.le_refl _
/-! a cover has two halves, up to twice the atoms -/
theorem zcs_zhs (A : Nat → zA) (n v : Nat) : ∀ m, zcs A n v m ≤ zhs n m := by
  intro m
  unfold zcs zhs
  apply zsum_le
  intro i _
  split <;> omega
theorem zlH_ge {A : Nat → zA} {m : Nat} (hA : ∀ i, i < m → zaOK (A i)) (hm : 0 < m) : ∀ n, 2 ≤ zlH A m n
  | 0 => by show 2 ≤ 10; omega
  | n + 1 => by
    have ih := zlH_ge hA hm n
    rw [zlH]
    split
    · rename_i g
      have ha := hA 0 hm
      have hx : zaH (A 0) (A 0).2.2.1 = true := by unfold zaH; simp
      have hc := zall_iff.1 g.1 (A 0).2.2.1 ha.2.2.2.1
      have hany : zany (fun i => zaH (A i) (A 0).2.2.1) m = true := zany_iff.2 ⟨0, hm, hx⟩
      rw [hany, Bool.not_true, Bool.false_or, decide_eq_true_eq] at hc
      exact Nat.le_trans hc (zcs_zhs A n _ m)
    · exact ih
theorem zh_full : ∀ m : Fin 6, ∀ i : Fin 6, i.val < m.val → zh (3 ^ m.val - 1) i.val = 2 := by decide +kernel
theorem zlH_step (A : Nat → zA) (m : Nat) : ∀ N n, n < N → zkv A m n = true → zlH A m N ≤ zhs n m := by
  intro N
  induction N with
  | zero => intro n hn; omega
  | succ N ih =>
    intro n hn hc
    rw [zlH]
    by_cases e : n = N
    · subst e
      split
      · exact Nat.le_refl _
      · rename_i g
        have : ¬ zhs n m < zlH A m n := fun h => g ⟨hc, h⟩
        omega
    · have := ih n (by omega) hc
      split
      · rename_i g; omega
      · exact this
theorem zlH_up {A : Nat → zA} {m : Nat} (hm : m ≤ 5) : zlH A m (3 ^ m) ≤ 2 * m := by
  have hp : 0 < 3 ^ m := Nat.pow_pos (by decide)
  refine Nat.le_trans (zlH_step A m (3 ^ m) (3 ^ m - 1) (by omega) ?_) (zhs_le _ m)
  unfold zkv
  rw [zall_iff]
  intro v _
  rw [Bool.or_eq_true, Bool.not_eq_true', decide_eq_true_eq]
  cases e : zany (fun i => zaH (A i) v) m
  · exact Or.inl rfl
  · right
    obtain ⟨i, hi, g⟩ := zany_iff.1 e
    unfold zcs
    have hle : zsum (fun _ => 0) m ≤ 0 := Nat.le_of_eq (zsum_0 m)
    have hmem := yg_mem (f := fun i => if zaH (A i) v = true then zh (3 ^ m - 1) i else 0) hi
    have h2 : (if zaH (A i) v = true then zh (3 ^ m - 1) i else 0) = 2 := by
      rw [if_pos g]
      exact zh_full ⟨m, by omega⟩ ⟨i, by omega⟩ hi
    rw [h2] at hmem
    exact hmem
/-! the bound does not depend on the order of the atoms, nor on one told again -/
theorem zsat_min (a z : Nat) : zsat (min a zMAX) z = min (a * z) zMAX := by
  have hM : 0 < zMAX := by unfold zMAX; decide
  unfold zsat
  rcases Nat.lt_or_ge zMAX a with g | g
  · rw [Nat.min_eq_right (Nat.le_of_lt g)]
    rcases Nat.eq_zero_or_pos z with e | e
    · subst e
      rw [Nat.mul_zero, Nat.mul_zero, if_pos (Nat.zero_le _), Nat.zero_min]
    · have h1 : zMAX < a * z := Nat.lt_of_lt_of_le g (Nat.le_mul_of_pos_right a e)
      rw [Nat.min_eq_right (Nat.le_of_lt h1)]
      by_cases c : zMAX * z ≤ zMAX
      · rw [if_pos c]
        exact Nat.le_antisymm c (Nat.le_mul_of_pos_right _ e)
      · rw [if_neg c]
  · rw [Nat.min_eq_left g]
    by_cases c : a * z ≤ zMAX
    · rw [if_pos c, Nat.min_eq_left c]
    · rw [if_neg c, Nat.min_eq_right (by omega)]
theorem zpr_min (sz : Nat → Nat) (n : Nat) : ∀ m, zpr sz n m = min (yg_p sz (zh n) m) zMAX
  | 0 => rfl
  | m + 1 => by
    have ih := zpr_min sz n m
    show zit (sz m) (zpr sz n m) (zh n m) = min (yg_p sz (zh n) m * sz m ^ zh n m) zMAX
    have key : ∀ k, zit (sz m) (zpr sz n m) k = min (yg_p sz (zh n) m * sz m ^ k) zMAX := by
      intro k
      induction k with
      | zero =>
        rw [Nat.pow_zero, Nat.mul_one]
        exact ih
      | succ k ihk =>
        show zsat (zit (sz m) (zpr sz n m) k) (sz m) = _
        rw [ihk, zsat_min, Nat.pow_succ, Nat.mul_assoc]
    exact key _
theorem yg_pfirst (f h : Nat → Nat) : ∀ m, yg_p f h (m + 1) = f 0 ^ h 0 * yg_p (fun i => f (i + 1)) (fun i => h (i + 1)) m
  | 0 => by show 1 * f 0 ^ h 0 = f 0 ^ h 0 * 1; rw [Nat.one_mul, Nat.mul_one]
  | m + 1 => by
    show yg_p f h (m + 1) * f (m + 1) ^ h (m + 1) = f 0 ^ h 0 * (yg_p (fun i => f (i + 1)) (fun i => h (i + 1)) m * f (m + 1) ^ h (m + 1))
    rw [yg_pfirst f h m, Nat.mul_assoc]
theorem yg_prev : ∀ m (f h : Nat → Nat), yg_p (fun i => f (m - 1 - i)) (fun i => h (m - 1 - i)) m = yg_p f h m
  | 0, _, _ => rfl
  | m + 1, f, h => by
    rw [yg_pfirst]
    have e : yg_p (fun i => f (m + 1 - 1 - (i + 1))) (fun i => h (m + 1 - 1 - (i + 1))) m = yg_p (fun i => f (m - 1 - i)) (fun i => h (m - 1 - i)) m := by
      have : ∀ i, m + 1 - 1 - (i + 1) = m - 1 - i := fun i => by omega
      simp only [this]
    rw [e, yg_prev m f h, Nat.mul_comm]
    rfl
theorem zsum_first (f : Nat → Nat) : ∀ m, zsum f (m + 1) = f 0 + zsum (fun i => f (i + 1)) m
  | 0 => by show 0 + f 0 = f 0 + 0; omega
  | m + 1 => by
    show zsum f (m + 1) + f (m + 1) = f 0 + (zsum (fun i => f (i + 1)) m + f (m + 1))
    rw [zsum_first f m]; omega
theorem zsum_rev : ∀ m (f : Nat → Nat), zsum (fun i => f (m - 1 - i)) m = zsum f m
  | 0, _ => rfl
  | m + 1, f => by
    rw [zsum_first]
    have e : zsum (fun i => f (m + 1 - 1 - (i + 1))) m = zsum (fun i => f (m - 1 - i)) m := zsum_cong (fun i _ => by rw [show m + 1 - 1 - (i + 1) = m - 1 - i by omega])
    rw [e, zsum_rev m f]
    show f (m + 1 - 1 - 0) + zsum f m = zsum f m + f m
    rw [show m + 1 - 1 - 0 = m by omega]; omega
theorem zh_code : ∀ M (g : Nat → Nat), (∀ i, i < M → g i < 3) → ∃ n, n < 3 ^ M ∧ ∀ i, i < M → zh n i = g i
  | 0, _, _ => ⟨0, by decide, fun i hi => absurd hi (Nat.not_lt_zero _)⟩
  | M + 1, g, h => by
    obtain ⟨n, hn, e⟩ := zh_code M g (fun i hi => h i (by omega))
    have hg := h M (by omega)
    have hp : 0 < 3 ^ M := Nat.pow_pos (by decide)
    refine ⟨n + 3 ^ M * g M, ?_, ?_⟩
    · rw [Nat.pow_succ]
      have : 3 ^ M * g M ≤ 3 ^ M * 2 := Nat.mul_le_mul_left _ (by omega)
      omega
    · intro i hi
      unfold zh
      by_cases c : i = M
      · subst c
        rw [Nat.add_mul_div_left _ _ hp, Nat.div_eq_of_lt hn, Nat.zero_add, Nat.mod_eq_of_lt hg]
      · have hiM : i < M := by omega
        have := e i hiM
        unfold zh at this
        rw [← this]
        obtain ⟨d, rfl⟩ : ∃ d, M = i + 1 + d := ⟨M - i - 1, by omega⟩
        have e1 : n + 3 ^ (i + 1 + d) * g (i + 1 + d) = n + 3 ^ i * (3 * (3 ^ d * g (i + 1 + d))) := by
          rw [Nat.pow_add, Nat.pow_add, Nat.pow_one]
          simp only [Nat.mul_assoc]
        rw [e1, Nat.add_mul_div_left _ _ (Nat.pow_pos (by decide)), Nat.add_mul_mod_self_left]
theorem zlP_step (A : Nat → zA) (sz : Nat → Nat) (m : Nat) : ∀ N n, n < N → zkv A m n = true → zlP A sz m N ≤ zpr sz n m := by
  intro N
  induction N with
  | zero => intro n hn; omega
  | succ N ih =>
    intro n hn hc
    rw [zlP]
    by_cases e : n = N
    · subst e
      split
      · exact Nat.le_refl _
      · rename_i g
        have : ¬ zpr sz n m < zlP A sz m n := fun h => g ⟨hc, h⟩
        omega
    · have := ih n (by omega) hc
      split
      · rename_i g; omega
      · exact this
theorem zlP_low {A : Nat → zA} {sz : Nat → Nat} {m X : Nat} (hX : X ≤ zMAX) : ∀ N, (∀ n, n < N → zkv A m n = true → X ≤ zpr sz n m) → X ≤ zlP A sz m N
  | 0, _ => hX
  | N + 1, h => by
    have ih := zlP_low (A := A) (sz := sz) (m := m) hX N (fun n hn => h n (by omega))
    rw [zlP]
    split
    · rename_i g
      exact h N (by omega) g.1
    · exact ih
theorem zlP_back {A B : Nat → zA} {sa sb : Nat → Nat} {m : Nat} (hm : 0 < m) (hB : ∀ i, i < m → B i = A (m - 1 - i) ∧ sb i = sa (m - 1 - i)) (hBm : B m = A 0) : zlP B sb (m + 1) (3 ^ (m + 1)) ≤ zlP A sa m (3 ^ m) := by
  refine zlP_low (zlP_le _ _ _ _) _ ?_
  intro n hn hc
  obtain ⟨n', hn', e⟩ := zh_code (m + 1) (fun i => if i < m then zh n (m - 1 - i) else 0) (fun i _ => by
    show (if i < m then zh n (m - 1 - i) else 0) < 3
    split
    · exact zh_lt _ _
    · omega)
  have eh : ∀ i, i < m → zh n' i = zh n (m - 1 - i) := fun i hi => by
    rw [e i (by omega)]
    exact if_pos hi
  have ehm : zh n' m = 0 := by
    rw [e m (by omega)]
    exact if_neg (Nat.lt_irrefl m)
  refine Nat.le_trans (zlP_step B sb (m + 1) _ n' hn' ?_) ?_
  · unfold zkv at hc ⊢
    rw [zall_iff] at hc ⊢
    intro v hv
    have h1 := hc v hv
    have ecs : zcs B n' v (m + 1) = zcs A n v m := by
      unfold zcs
      show zsum (fun i => if zaH (B i) v = true then zh n' i else 0) m + (if zaH (B m) v = true then zh n' m else 0) = _
      rw [ehm, show (if zaH (B m) v = true then 0 else 0) = 0 by split <;> rfl, Nat.add_zero, ← zsum_rev m (fun i => if zaH (A i) v = true then zh n i else 0)]
      apply zsum_cong
      intro i hi
      rw [(hB i hi).1, eh i hi]
    have eany : zany (fun i => zaH (B i) v) (m + 1) = zany (fun i => zaH (A i) v) m := by
      rw [Bool.eq_iff_iff, zany_iff, zany_iff]
      constructor
      · rintro ⟨i, hi, g⟩
        by_cases c : i = m
        · rw [c, hBm] at g
          exact ⟨0, hm, g⟩
        · rw [(hB i (by omega)).1] at g
          exact ⟨m - 1 - i, by omega, g⟩
      · rintro ⟨i, hi, g⟩
        refine ⟨m - 1 - i, by omega, ?_⟩
        rw [(hB (m - 1 - i) (by omega)).1, show m - 1 - (m - 1 - i) = i by omega]
        exact g
    rw [ecs, eany]
    exact h1
  · rw [zpr_min, zpr_min]
    have ep : yg_p sb (zh n') (m + 1) = yg_p sa (zh n) m := by
      show yg_p sb (zh n') m * sb m ^ zh n' m = _
      rw [ehm, Nat.pow_zero, Nat.mul_one, ← yg_prev m sa (zh n)]
      have : ∀ k, k ≤ m → yg_p sb (zh n') k = yg_p (fun i => sa (m - 1 - i)) (fun i => zh n (m - 1 - i)) k := by
        intro k
        induction k with
        | zero => intro _; rfl
        | succ k ih =>
          intro hk
          show yg_p sb (zh n') k * sb k ^ zh n' k = yg_p (fun i => sa (m - 1 - i)) (fun i => zh n (m - 1 - i)) k * sa (m - 1 - k) ^ zh n (m - 1 - k)
          rw [ih (by omega), (hB k (by omega)).2, eh k (by omega)]
      exact this m (Nat.le_refl m)
    rw [ep]
    exact Nat.le_refl _
/-! a tree either way -/
theorem zTree_back {A B : Nat → zA} {m : Nat} (hm : 0 < m) (hB : ∀ i, i < m → B i = A (m - 1 - i)) (hBm : B m = A 0) : zTree B (m + 1) ↔ zTree A m := by
  unfold zTree
  have ec : zmu (fun i => zaS (B i)) (fun _ => false) (m + 1) = zp1 (zmu (fun i => zaS (A i)) (fun _ => false) m) (zaS (A 0)) := by
    funext x
    unfold zmu zp1
    show zcnt (fun i => !false && decide (zaS (B i) = x)) (m + 1) = zcnt (fun i => !false && decide (zaS (A i) = x)) m + (if x = zaS (A 0) then 1 else 0)
    rw [zcnt_s, hBm]
    congr 1
    · unfold zcnt
      rw [← zsum_rev m (fun k => (!false && decide (zaS (A k) = x)).toNat)]
      apply zsum_cong
      intro i hi
      show (!false && decide (zaS (B i) = x)).toNat = _
      rw [hB i hi]
    · by_cases g : x = zaS (A 0)
      · rw [if_pos g, decide_eq_true g.symm]; rfl
      · rw [if_neg g, decide_eq_false (fun h => g h.symm)]; rfl
  rw [ec]
  have hpos : 1 ≤ zmu (fun i => zaS (A i)) (fun _ => false) m (zaS (A 0)) := zmu_pos.2 ⟨0, hm, rfl, rfl⟩
  have hS : zyS (zp1 (zmu (fun i => zaS (A i)) (fun _ => false) m) (zaS (A 0))) (zmu (fun i => zaS (A i)) (fun _ => false) m) := by
    refine Or.inr ⟨zaS (A 0), ⟨by rw [zp1_eq]; omega, Or.inr (Or.inl (by rw [zp1_eq]; omega))⟩, ?_⟩
    funext x
    by_cases g : x = zaS (A 0)
    · rw [g, zm1_eq, zp1_eq]; rfl
    · rw [zm1_ne g, zp1_ne g]
  exact zRed_yS hS
