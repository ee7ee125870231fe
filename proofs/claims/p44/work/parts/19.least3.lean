theorem zcol_of {i j : Nat} (hj : j < 64) (hi : i < 8) : zcol (64 * i + j) 0 = i ∧ zcol (64 * i + j) 1 = j / 8 ∧ zcol (64 * i + j) 2 = j % 8 ∧ (64 * i + j) % 64 = j := by
  unfold zcol; simp only [Nat.reduceSub, Nat.reducePow]; omega
theorem zhas_iff {R : Nat → Nat → Bool} {a : zA} {d : Nat → Nat} {v y : Nat} : zhas R a d v y = true ↔ ∃ i j, i < 8 ∧ j < 64 ∧ zcb R a d i j = true ∧ zpin d a.2.2.1 i = true ∧ zcol (64 * i + j) (zcv a v) = y := by
  unfold zhas
  rw [zany_iff]
  constructor
  · rintro ⟨k, hk, h⟩
    rw [zcb_fit R a d k hk] at h
    simp only [Bool.and_eq_true, decide_eq_true_eq] at h
    have e : 64 * zcol k 0 + k % 64 = k := by unfold zcol; simp only [Nat.reduceSub, Nat.reducePow]; omega
    exact ⟨zcol k 0, k % 64, (zcol_k hk).2.1, Nat.mod_lt _ (by decide), h.1.1, h.1.2, by rw [e]; exact h.2⟩
  · rintro ⟨i, j, hi, hj, h1, h2, h3⟩
    obtain ⟨e0, e1, e2, e3⟩ := zcol_of hj hi
    refine ⟨64 * i + j, by omega, ?_⟩
    rw [zcb_fit R a d _ (by omega), e0, e3, h1, h2]
    simpa using h3
theorem zX8_loopA (K : Nat) (hK : 8 < K) {w : Nat → Int64} {a : zA} (ha : zaOK a) (n : Bool) {d : Nat → Nat} {v x : Nat} (hv : v < 4) (hd0 : d v = 0) (hf : zaV a 0 = v) (hx : x ≤ 8) (O : Int64) (hO : ∀ j, j < 64 → zb O j = zop a d j) :
    fX8_least_136 K (nI (zch d)) (nI (zaC a n)) (nI v) (nI x) w K (nI (zaV a 0)) (zsec a 1) (zsec a 2) O 0 (nI 8) (nI x) = some (zres (zlst (zhas (zw w) a d v) (8 - x) x)) := by
  have hcv : zcv a v = 0 := if_pos hf
  have hpin : ∀ c, zpin d a.2.2.1 c = true := by
    intro c; unfold zpin
    have : a.2.2.1 = v := hf
    rw [this, hd0]; rfl
  obtain ⟨r, hr, e⟩ := z_for (F := fun k i (J : Int64) => fX8_least_136 K (nI (zch d)) (nI (zaC a n)) (nI v) (nI x) w k (nI (zaV a 0)) (zsec a 1) (zsec a 2) O J (nI 8) (nI i)) (n := 8)
    (inv := fun i _ => x ≤ i ∧ zlst (zhas (zw w) a d v) (8 - i) i = zlst (zhas (zw w) a d v) (8 - x) x)
    (post := fun s => s = zres (zlst (zhas (zw w) a d v) (8 - x) x))
    (by
      intro k i J hi hinv
      obtain ⟨hxi, hinv⟩ := hinv
      have hni : 8 - i = (8 - (i + 1)) + 1 := by omega
      rw [hni, zlst] at hinv
      obtain ⟨C, hC, hstep⟩ := zX8_step K (w := w) ha n (x := x) hv O hO hi (Nat.le_refl 8) J k
      rw [hstep, if_pos hf]
      have key : (C = 0) ↔ ¬ zhas (zw w) a d v i = true := by
        rw [zb_eq0, zhas_iff]
        constructor
        · rintro h ⟨i', j, hi', hj, h1, h2, h3⟩
          rw [hcv, (zcol_of hj hi').1] at h3
          subst h3
          have := h j hj
          rw [hC j hj, h1] at this
          exact absurd this (by decide)
        · intro h j hj
          rw [hC j hj]
          cases hc : zcb (zw w) a d i j
          · rfl
          · exact absurd ⟨i, j, hi, hj, hc, hpin i, by rw [hcv, (zcol_of hj hi).1]⟩ h
      by_cases hz : zhas (zw w) a d v i = true
      · right
        rw [if_pos hz] at hinv
        refine ⟨nI i, ?_, if_neg (fun q => key.mp q hz)⟩
        rw [← hinv]; unfold zres; rw [if_pos hi]
      · left
        rw [if_neg hz] at hinv
        exact ⟨J ||| C, ⟨by omega, hinv⟩, if_pos (key.mpr hz)⟩)
    (by
      intro k J hinv
      obtain ⟨hxi, hinv⟩ := hinv
      refine ⟨_, rfl, ?_⟩
      rw [← hinv]
      have ev : nI (zaV a 0) = nI v := by rw [hf]
      rw [fX8_least_136, if_pos (by rw [zi_le (by omega) (by omega)]; omega), if_pos ev]
      rfl)
    (8 - x) K x 0 (by omega) ⟨Nat.le_refl x, rfl⟩ (by omega)
  rw [hr] at e; exact e
theorem zX8_loopB (K : Nat) (hK : 8 < K) {w : Nat → Int64} {a : zA} (ha : zaOK a) (n : Bool) {d : Nat → Nat} {v x : Nat} (hv : v < 4) (hh : zaH a v = true) (hf : ¬ zaV a 0 = v) (hx : x ≤ 8) (O : Int64) (hO : ∀ j, j < 64 → zb O j = zop a d j) {s e : Nat} (hse : s ≤ e) (he : e ≤ 8) (hpin : ∀ i, i < 8 → (zpin d a.2.2.1 i = true ↔ (s ≤ i ∧ i < e))) :
    fX8_least_136 K (nI (zch d)) (nI (zaC a n)) (nI v) (nI x) w K (nI (zaV a 0)) (zsec a 1) (zsec a 2) O 0 (nI e) (nI s) = some (zres (zlst (zhas (zw w) a d v) (8 - x) x)) := by
  obtain ⟨r, hr, eq⟩ := z_for (F := fun k i (J : Int64) => fX8_least_136 K (nI (zch d)) (nI (zaC a n)) (nI v) (nI x) w k (nI (zaV a 0)) (zsec a 1) (zsec a 2) O J (nI e) (nI i)) (n := e)
    (inv := fun i J => s ≤ i ∧ ∀ j, j < 64 → (zb J j = true ↔ ∃ i', s ≤ i' ∧ i' < i ∧ zcb (zw w) a d i' j = true))
    (post := fun s => s = zres (zlst (zhas (zw w) a d v) (8 - x) x))
    (by
      intro k i J hi hinv
      obtain ⟨C, hC, hstep⟩ := zX8_step K (w := w) ha n (x := x) hv O hO hi he J k
      rw [hstep, if_neg hf]
      left
      obtain ⟨hsi, hinv⟩ := hinv
      refine ⟨J ||| C, ⟨by omega, ?_⟩, rfl⟩
      intro j hj
      rw [zb_or, hC j hj, Bool.or_eq_true, hinv j hj]
      constructor
      · rintro (⟨i', h1, h2, h3⟩ | h)
        · exact ⟨i', h1, by omega, h3⟩
        · exact ⟨i, hsi, by omega, h⟩
      · rintro ⟨i', h1, h2, h3⟩
        rcases Nat.lt_or_ge i' i with q | q
        · exact Or.inl ⟨i', h1, q, h3⟩
        · have : i' = i := by omega
          subst this; exact Or.inr h3)
    (by
      intro k J hinv
      obtain ⟨hsi, hinv⟩ := hinv
      refine ⟨_, rfl, ?_⟩
      have ev : ¬ nI (zaV a 0) = nI v := by rw [zi_eq (by have := zaV_lt ha (show 0 < 3 by omega); omega) (by omega)]; exact hf
      rw [fX8_least_136, if_pos (by rw [zi_le (by omega) (by omega)]; omega), if_neg ev]
      have hcv : zcv a v = if 1 < a.2.1 ∧ zaV a 1 = v then 1 else 2 := if_neg hf
      have e6 : (zsec a 1 = nI v) = (1 < a.2.1 ∧ zaV a 1 = v) := by
        unfold zsec
        apply propext
        have := zaV_lt ha (show 1 < 3 by omega)
        by_cases hc : 1 < a.2.1
        · rw [if_pos hc, zi_eq (by omega) (by omega)]; exact ⟨fun q => ⟨hc, q⟩, fun q => q.2⟩
        · rw [if_neg hc]; exact ⟨fun q => absurd q.symm (zi_m1 (by omega)), fun q => absurd q.1 hc⟩
      have fin : ∀ b : Bool, (b = true ↔ 1 < a.2.1 ∧ zaV a 1 = v) → ∀ y, zany (fun j => zb J j && decide ((if b then j / 8 else j % 8) = y)) 64 = zhas (zw w) a d v y := by
        intro b hb y
        rw [Bool.eq_iff_iff, zany_iff, zhas_iff]
        have hz : ∀ i j, i < 8 → j < 64 → zcol (64 * i + j) (zcv a v) = (if b = true then j / 8 else j % 8) := by
          intro i j hi hj
          obtain ⟨z0, z1, z2, z3⟩ := zcol_of hj hi
          rw [hcv]
          by_cases hc : 1 < a.2.1 ∧ zaV a 1 = v
          · rw [if_pos hc, if_pos (hb.mpr hc), z1]
          · rw [if_neg hc, if_neg (fun q => hc (hb.mp q)), z2]
        constructor
        · rintro ⟨j, hj, h⟩
          simp only [Bool.and_eq_true, decide_eq_true_eq] at h
          obtain ⟨i, h1, h2, h3⟩ := (hinv j hj).mp h.1
          exact ⟨i, j, by omega, hj, h3, (hpin i (by omega)).mpr ⟨h1, h2⟩, by rw [hz i j (by omega) hj]; exact h.2⟩
        · rintro ⟨i, j, hi, hj, h1, h2, h3⟩
          refine ⟨j, hj, ?_⟩
          have h4 := (hpin i hi).mp h2
          rw [(hinv j hj).mpr ⟨i, h4.1, h4.2, h1⟩]
          rw [hz i j hi hj] at h3
          simpa using h3
      by_cases hc : 1 < a.2.1 ∧ zaV a 1 = v
      · rw [if_pos (by rw [e6]; exact hc)]
        unfold fX8_least_264
        rw [show (1 : Int32) = bI true from rfl, zX8_leastIn K hK J hx true, zlst_cong (fun y _ _ => fin true (by simp [hc]) y)]
        rfl
      · rw [if_neg (by rw [e6]; exact hc)]
        unfold fX8_least_264
        rw [show (0 : Int32) = bI false from rfl, zX8_leastIn K hK J hx false, zlst_cong (fun y _ _ => fin false (by simp only [Bool.false_eq_true, false_iff]; exact hc) y)]
        rfl)
    (e - s) K s 0 (by omega) ⟨Nat.le_refl s, by
      intro j hj
      rw [zb_0]
      constructor
      · intro q; exact absurd q (by decide)
      · rintro ⟨i', h1, h2, _⟩; omega⟩ (by omega)
  rw [hr] at eq; exact eq
theorem zX8_least (K : Nat) (hK : 8 < K) (w : Nat → Int64) {a : zA} (ha : zaOK a) (n : Bool) {d : Nat → Nat} (hd : zdg d) {v x : Nat} (hv : v < 4) (hh : zaH a v = true) (hd0 : d v = 0) (hx : x ≤ 8) :
    fX8_least K (nI (zch d)) (nI (zaC a n)) (nI v) (nI x) w = some (zres (zlst (zhas (zw w) a d v) (8 - x) x)) := by
  have hdl := zdg_lt hd
  have hw1 : 0 < a.2.1 := ha.2.1
  have hv0 := zaV_lt ha (show 0 < 3 by omega)
  have hv1 := zaV_lt ha (show 1 < 3 by omega)
  have hv2 := zaV_lt ha (show 2 < 3 by omega)
  -- the two masks
  have M2 : ∃ M, fX8_mask (nI (zch d)) (zsec a 1) (255 : Int64) (8 : Int32) = some M ∧ ∀ j, j < 64 → zb M j = (decide (a.2.1 ≤ 1) || zpin d a.2.2.2.1 (j / 8)) := by
    unfold zsec
    by_cases h : 1 < a.2.1
    · rw [if_pos h]
      obtain ⟨M, e, hM⟩ := zX8_mask2 hdl hv1
      refine ⟨M, e, fun j hj => ?_⟩
      rw [hM j hj, decide_eq_false (by omega : ¬ a.2.1 ≤ 1), Bool.false_or]; rfl
    · rw [if_neg h]
      refine ⟨-1, by unfold fX8_mask; rw [if_pos rfl], fun j hj => ?_⟩
      rw [zb_m1 hj, decide_eq_true (by omega : a.2.1 ≤ 1), Bool.true_or]
  have M3 : ∃ M, fX8_mask (nI (zch d)) (zsec a 2) (72340172838076673 : Int64) (1 : Int32) = some M ∧ ∀ j, j < 64 → zb M j = (decide (a.2.1 ≤ 2) || zpin d a.2.2.2.2 (j % 8)) := by
    unfold zsec
    by_cases h : 2 < a.2.1
    · rw [if_pos h]
      obtain ⟨M, e, hM⟩ := zX8_mask3 hdl hv2
      refine ⟨M, e, fun j hj => ?_⟩
      rw [hM j hj, decide_eq_false (by omega : ¬ a.2.1 ≤ 2), Bool.false_or]; rfl
    · rw [if_neg h]
      refine ⟨-1, by unfold fX8_mask; rw [if_pos rfl], fun j hj => ?_⟩
      rw [zb_m1 hj, decide_eq_true (by omega : a.2.1 ≤ 2), Bool.true_or]
  obtain ⟨m2, em2, hm2⟩ := M2
  obtain ⟨m3, em3, hm3⟩ := M3
  -- the open word and what comes behind it
  have tail : ∀ T : Int64, (∀ j, j < 64 → zb T j = (decide (a.2.1 ≤ 2) || !decide (a.2.2.2.1 = a.2.2.2.2) || decide (j / 8 = j % 8))) →
      fX8_least_69 K (nI (zch d)) (nI (zaC a n)) (nI v) (nI x) w (nI (zaV a 0)) (zsec a 1) (zsec a 2) (m2 &&& m3) T = some (zres (zlst (zhas (zw w) a d v) (8 - x) x)) := by
    intro T hT
    have hO : ∀ j, j < 64 → zb ((m2 &&& m3) &&& T) j = zop a d j := by
      intro j hj
      rw [zb_and, zb_and, hm2 j hj, hm3 j hj, hT j hj]; rfl
    unfold fX8_least_69
    rw [zX1_hasValue hdl hv0]
    simp only [Option.bind_some]
    by_cases hp : 8 ≤ d (zaV a 0)
    · have hne : ¬ zaV a 0 = v := fun q => by rw [q, hd0] at hp; omega
      rw [decide_eq_true hp, if_neg (show ¬ bI true = 0 by decide), zX1_valueOf hdl hv0]
      simp only [Option.bind_some]
      unfold fX8_least_114
      rw [if_neg (show ¬ bI true = 0 by decide)]
      unfold fX8_least_130
      rw [show (1 : Int32) = nI 1 from rfl, zi_add]
      exact zX8_loopB K hK ha n hv hh hne hx _ hO (by omega) (by omega) (by
        intro i hi
        unfold zpin
        have : ¬ d a.2.2.1 = 0 := by have : d a.2.2.1 = d (zaV a 0) := rfl; omega
        have e : d a.2.2.1 % 8 = d (zaV a 0) % 8 := rfl
        simp only [this, decide_false, Bool.false_or, decide_eq_true_eq, e]
        omega)
    · have hz : d (zaV a 0) = 0 := by have := hd _ hv0; omega
      rw [decide_eq_false hp, if_pos (show bI false = 0 from rfl)]
      unfold fX8_least_114
      rw [if_pos (show bI false = 0 from rfl), if_pos (show bI false = 0 from rfl)]
      unfold fX8_least_130
      by_cases hf : zaV a 0 = v
      · rw [if_pos (by rw [hf])]
        exact zX8_loopA K hK ha n hv hd0 hf hx _ hO
      · rw [if_neg (by rw [zi_eq (by omega) (by omega)]; exact hf)]
        exact zX8_loopB (s := 0) (e := 8) K hK ha n hv hh hf hx _ hO (by omega) (Nat.le_refl 8) (by
          intro i hi
          have : d a.2.2.1 = 0 := hz
          unfold zpin
          simp only [this, decide_true, Bool.true_or, true_iff]
          omega)
  unfold fX8_least
  have v0 : fX1_variable (nI (zaC a n)) (0 : Int32) = some (nI (zaV a 0)) := by
    have := zX1_variable ha n (show 0 < 3 by omega); rw [if_pos hw1] at this; exact this
  have v1 : fX1_variable (nI (zaC a n)) (1 : Int32) = some (zsec a 1) := zX1_variable ha n (show 1 < 3 by omega)
  have v2 : fX1_variable (nI (zaC a n)) (2 : Int32) = some (zsec a 2) := zX1_variable ha n (show 2 < 3 by omega)
  rw [v0, v1, v2]
  simp only [Option.bind_some]
  rw [em2, em3]
  simp only [Option.bind_some]
  unfold fX8_least_66
  by_cases h1 : 1 < a.2.1
  · have s1 : zsec a 1 = nI (zaV a 1) := if_pos h1
    rw [if_neg (by rw [s1]; exact zi_m1 (by omega))]
    by_cases h2 : zsec a 1 = zsec a 2
    · rw [if_pos h2]
      have h3 : 2 < a.2.1 := by
        apply Classical.byContradiction; intro q
        have : zsec a 2 = -1 := if_neg q
        rw [this, s1] at h2; exact zi_m1 (by omega) h2
      have h4 : a.2.2.2.1 = a.2.2.2.2 := by
        rw [zsec_eq ha (by omega) (by omega) h3] at h2; exact h2.2
      apply tail
      intro j hj
      have := zb_alike ⟨j, hj⟩
      simp only at this
      rw [this, decide_eq_true h4, decide_eq_false (by omega : ¬ a.2.1 ≤ 2)]; rfl
    · rw [if_neg h2]
      apply tail
      intro j hj
      rw [zb_m1 hj]
      by_cases h3 : 2 < a.2.1
      · have : ¬ a.2.2.2.1 = a.2.2.2.2 := fun q => h2 (by rw [zsec_eq ha (by omega) (by omega) h3]; exact ⟨h1, q⟩)
        simp [this]
      · have : a.2.1 ≤ 2 := by omega
        simp [this]
  · have s1 : zsec a 1 = -1 := if_neg h1
    rw [if_pos s1]
    apply tail
    intro j hj
    rw [zb_m1 hj]
    have : a.2.1 ≤ 2 := by omega
    simp [this]
