def zdg (d : Nat → Nat) : Prop := ∀ v, v < 4 → d v = 0 ∨ (8 ≤ d v ∧ d v < 16)
theorem zdg_lt {d : Nat → Nat} (h : zdg d) : ∀ v, v < 4 → d v < 16 := fun v hv => by have := h v hv; omega
/-- a column in which a variable stands -/
def zcv (a : zA) (v : Nat) : Nat := if a.2.2.1 = v then 0 else if 1 < a.2.1 ∧ a.2.2.2.1 = v then 1 else 2
/-- whether a row fits what is chosen -/
def zfit (a : zA) (d : Nat → Nat) (k : Nat) : Bool := zpin d a.2.2.1 (zcol k 0) && (decide (a.2.1 ≤ 1) || zpin d a.2.2.2.1 (zcol k 1)) && (decide (a.2.1 ≤ 2) || zpin d a.2.2.2.2 (zcol k 2)) && zaG a k
def zhas (R : Nat → Nat → Bool) (a : zA) (d : Nat → Nat) (v y : Nat) : Bool := zany (fun k => R a.1 k && zfit a d k && decide (zcol k (zcv a v) = y)) 512
def zsec (a : zA) (j : Nat) : Int32 := if j < a.2.1 then nI (zaV a j) else -1
theorem zcb_fit (R : Nat → Nat → Bool) (a : zA) (d : Nat → Nat) (k : Nat) (hk : k < 512) : (R a.1 k && zfit a d k) = (zcb R a d (zcol k 0) (k % 64) && zpin d a.2.2.1 (zcol k 0)) := by
  have e0 : 64 * zcol k 0 + k % 64 = k := by unfold zcol; simp only [Nat.reduceSub, Nat.reducePow]; omega
  have e1 : k % 64 / 8 = zcol k 1 := by unfold zcol; simp only [Nat.reduceSub, Nat.reducePow]; omega
  have e2 : k % 64 % 8 = zcol k 2 := by unfold zcol; simp only [Nat.reduceSub, Nat.reducePow]; omega
  unfold zcb zfit zaG
  rw [e0, e1, e2]
  generalize zcol k 0 = c0
  generalize zcol k 1 = c1
  generalize zcol k 2 = c2
  obtain ⟨t, w, x, y, z⟩ := a
  simp only
  generalize R t k = r
  generalize zpin d x c0 = p0
  generalize zpin d y c1 = p1
  generalize zpin d z c2 = p2
  rw [Bool.eq_iff_iff]
  simp only [Bool.and_eq_true, Bool.or_eq_true, decide_eq_true_eq, Bool.not_eq_true', decide_eq_false_iff_not]
  constructor
  · rintro ⟨h1, ⟨⟨h2, h3⟩, h4⟩, h5, h6, h7⟩
    refine ⟨⟨⟨⟨⟨⟨h1, h3⟩, h4⟩, ?_⟩, ?_⟩, ?_⟩, h2⟩
    · by_cases hw : w ≤ 2
      · exact Or.inl (Or.inl hw)
      · by_cases e : y = z
        · exact Or.inr (h7 (by omega) e.symm).symm
        · exact Or.inl (Or.inr e)
    · by_cases hw : w ≤ 1
      · exact Or.inl (Or.inl hw)
      · by_cases e : y = x
        · exact Or.inr (h5 (by omega) e)
        · exact Or.inl (Or.inr e)
    · by_cases hw : w ≤ 2
      · exact Or.inl (Or.inl hw)
      · by_cases e : z = x
        · exact Or.inr (h6 (by omega) e)
        · exact Or.inl (Or.inr e)
  · rintro ⟨⟨⟨⟨⟨⟨h1, h3⟩, h4⟩, h5⟩, h6⟩, h7⟩, h2⟩
    refine ⟨h1, ⟨⟨h2, h3⟩, h4⟩, ?_, ?_, ?_⟩
    · intro hw e; rcases h6 with (h | h) | h
      · omega
      · exact absurd e h
      · exact h
    · intro hw e; rcases h7 with (h | h) | h
      · omega
      · exact absurd e h
      · exact h
    · intro hw e; rcases h5 with (h | h) | h
      · omega
      · exact absurd e.symm h
      · exact h.symm
theorem zsec_eq {a : zA} (ha : zaOK a) {i j : Nat} (hi : i < 3) (hj : j < 3) (h : j < a.2.1) : (zsec a i = zsec a j) = (i < a.2.1 ∧ zaV a i = zaV a j) := by
  have h1 := zaV_lt ha hi
  have h2 := zaV_lt ha hj
  unfold zsec
  rw [if_pos h]
  apply propext
  by_cases hc : i < a.2.1
  · rw [if_pos hc, zi_eq (by omega) (by omega)]
    exact ⟨fun e => ⟨hc, e⟩, fun e => e.2⟩
  · rw [if_neg hc]
    constructor
    · intro e; exact absurd e.symm (zi_m1 (by omega))
    · intro e; exact absurd e.1 hc
theorem zX8_step (K : Nat) {w : Nat → Int64} {a : zA} (ha : zaOK a) (n : Bool) {d : Nat → Nat} {v x : Nat} (hv : v < 4) (O : Int64) (hO : ∀ j, j < 64 → zb O j = zop a d j) {i e : Nat} (hi : i < e) (he : e ≤ 8) (J : Int64) (k : Nat) :
    ∃ C, (∀ j, j < 64 → zb C j = zcb (zw w) a d i j) ∧ fX8_least_136 K (nI (zch d)) (nI (zaC a n)) (nI v) (nI x) w (k + 1) (nI (zaV a 0)) (zsec a 1) (zsec a 2) O J (nI e) (nI i) =
      if zaV a 0 = v then (if C = 0 then fX8_least_136 K (nI (zch d)) (nI (zaC a n)) (nI v) (nI x) w k (nI (zaV a 0)) (zsec a 1) (zsec a 2) O (J ||| C) (nI e) (nI (i + 1)) else some (nI i)) else fX8_least_136 K (nI (zch d)) (nI (zaC a n)) (nI v) (nI x) w k (nI (zaV a 0)) (zsec a 1) (zsec a 2) O (J ||| C) (nI e) (nI (i + 1)) := by
  have hw1 : 0 < a.2.1 := ha.2.1
  have ht : a.1 < 5 := ha.1
  have hv0 := zaV_lt ha (show 0 < 3 by omega)
  have s0 : nI (zaV a 0) = zsec a 0 := by unfold zsec; rw [if_pos hw1]
  have e1 : (zsec a 1 = nI (zaV a 0)) = (1 < a.2.1 ∧ zaV a 1 = zaV a 0) := by rw [s0]; exact zsec_eq ha (by omega) (by omega) hw1
  have e2 : (zsec a 2 = nI (zaV a 0)) = (2 < a.2.1 ∧ zaV a 2 = zaV a 0) := by rw [s0]; exact zsec_eq ha (by omega) (by omega) hw1
  have m2 : ∀ j, j < 64 → zb ((255 : Int64) <<< (((8 : Int32) * nI i).toInt64 &&& 63)) j = decide (j / 8 = i) := fun j hj => by
    have := zb_row ⟨i, by omega⟩ ⟨j, hj⟩
    rw [show (8 : Int32) = nI 8 from rfl, zi_mul]; exact this
  have m3 : ∀ j, j < 64 → zb ((72340172838076673 : Int64) <<< ((nI i).toInt64 &&& 63)) j = decide (j % 8 = i) := fun j hj => zb_colm ⟨i, by omega⟩ ⟨j, hj⟩
  refine ⟨((w (8 * a.1 + i) &&& O) &&& (if zsec a 1 = nI (zaV a 0) then (255 : Int64) <<< (((8 : Int32) * nI i).toInt64 &&& 63) else -1)) &&& (if zsec a 2 = nI (zaV a 0) then (72340172838076673 : Int64) <<< ((nI i).toInt64 &&& 63) else -1), ?_, ?_⟩
  · intro j hj
    rw [zb_and, zb_and, zb_and, hO j hj]
    have z1 : zb (if zsec a 1 = nI (zaV a 0) then (255 : Int64) <<< (((8 : Int32) * nI i).toInt64 &&& 63) else -1) j = (decide (a.2.1 ≤ 1) || !decide (a.2.2.2.1 = a.2.2.1) || decide (j / 8 = i)) := by
      by_cases h : zsec a 1 = nI (zaV a 0)
      · rw [if_pos h, m2 j hj]
        rw [e1] at h
        have h2 : ¬ a.2.1 ≤ 1 := by omega
        have h3 : a.2.2.2.1 = a.2.2.1 := h.2
        simp [h2, h3]
      · rw [if_neg h, zb_m1 hj]
        rw [e1] at h
        by_cases h2 : a.2.1 ≤ 1
        · simp [h2]
        · have h3 : ¬ a.2.2.2.1 = a.2.2.1 := fun q => h ⟨by omega, q⟩
          simp [h3]
    have z2 : zb (if zsec a 2 = nI (zaV a 0) then (72340172838076673 : Int64) <<< ((nI i).toInt64 &&& 63) else -1) j = (decide (a.2.1 ≤ 2) || !decide (a.2.2.2.2 = a.2.2.1) || decide (j % 8 = i)) := by
      by_cases h : zsec a 2 = nI (zaV a 0)
      · rw [if_pos h, m3 j hj]
        rw [e2] at h
        have h2 : ¬ a.2.1 ≤ 2 := by omega
        have h3 : a.2.2.2.2 = a.2.2.1 := h.2
        simp [h2, h3]
      · rw [if_neg h, zb_m1 hj]
        rw [e2] at h
        by_cases h2 : a.2.1 ≤ 2
        · simp [h2]
        · have h3 : ¬ a.2.2.2.2 = a.2.2.1 := fun q => h ⟨by omega, q⟩
          simp [h3]
    rw [z1, z2]
    have hz : zb (w (8 * a.1 + i)) j = zw w a.1 (64 * i + j) := by
      unfold zw; rw [show 8 * a.1 + (64 * i + j) / 64 = 8 * a.1 + i by omega, show (64 * i + j) % 64 = j by omega]
    rw [hz]
    unfold zcb zop
    simp only [Bool.and_assoc]
  · have c0 : ¬ nI e ≤ nI i := by rw [zi_le (by omega) (by omega)]; omega
    rw [fX8_least_136, if_neg c0, zX1_table ha]
    simp only [Option.bind_some]
    rw [zX7_word w ht (by omega)]
    simp only [Option.bind_some]
    have ev : (nI (zaV a 0) = nI v) = (zaV a 0 = v) := propext (zi_eq (by omega) (by omega))
    by_cases h1 : zsec a 1 = nI (zaV a 0)
    · by_cases h2 : zsec a 2 = nI (zaV a 0)
      · simp only [if_pos h1, if_pos h2, fX8_least_183, fX8_least_207, fX8_least_226, ev, zi_lit, zl_cmp0, zi_add]
      · simp only [if_pos h1, if_neg h2, fX8_least_183, fX8_least_207, fX8_least_226, ev, zi_lit, zl_cmp0, zi_add]
    · by_cases h2 : zsec a 2 = nI (zaV a 0)
      · simp only [if_neg h1, if_pos h2, fX8_least_183, fX8_least_207, fX8_least_226, ev, zi_lit, zl_cmp0, zi_add]
      · simp only [if_neg h1, if_neg h2, fX8_least_183, fX8_least_207, fX8_least_226, ev, zi_lit, zl_cmp0, zi_add]
