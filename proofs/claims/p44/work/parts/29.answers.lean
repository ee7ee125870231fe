/-! what the search finds: all choices of values that fit, in ascending order -/
def zgen {α : Type} (p : Nat → Bool) (g : Nat → α) : Nat → List α
  | 0 => []
  | n + 1 => zgen p g n ++ (if p n = true then [g n] else [])
theorem zgen_cong {α : Type} {p q : Nat → Bool} {g h : Nat → α} : ∀ {n : Nat}, (∀ y, y < n → p y = q y ∧ g y = h y) → zgen p g n = zgen q h n
  | 0, _ => rfl
  | n + 1, e => by rw [zgen, zgen, zgen_cong (fun y hy => e y (by omega)), (e n (by omega)).1, (e n (by omega)).2]
theorem zgen_none {α : Type} {p : Nat → Bool} {g : Nat → α} : ∀ {n : Nat}, (∀ y, y < n → p y = false) → zgen p g n = []
  | 0, _ => rfl
  | n + 1, e => by rw [zgen, zgen_none (fun y hy => e y (by omega)), e n (by omega)]; rfl
theorem zgen_add {α : Type} (p : Nat → Bool) (g : Nat → α) (a : Nat) : ∀ b, zgen p g (a + b) = zgen p g a ++ zgen (fun y => p (a + y)) (fun y => g (a + y)) b
  | 0 => by simp [zgen]
  | b + 1 => by
    show zgen p g (a + b) ++ _ = zgen p g a ++ (zgen (fun y => p (a + y)) (fun y => g (a + y)) b ++ _)
    rw [zgen_add p g a b, List.append_assoc]; rfl
theorem zgen_blocks {α : Type} (p : Nat → Bool) (g : Nat → α) (B : Nat) : ∀ c x, zbl (fun r => zgen (fun y => p (r * B + y)) (fun y => g (r * B + y)) B) (fun _ => true) c x = zgen (fun y => p (x * B + y)) (fun y => g (x * B + y)) (c * B)
  | 0, x => by rw [Nat.zero_mul]; rfl
  | c + 1, x => by
    rw [zbl, if_pos rfl, zgen_blocks p g B c (x + 1), Nat.succ_mul c, Nat.add_comm (c * B) B, zgen_add]
    congr 1
    apply zgen_cong
    intro y _
    rw [Nat.succ_mul, Nat.add_assoc]; exact ⟨rfl, rfl⟩
theorem zbl_cong {α : Type} {s1 s2 : Nat → List α} {g1 g2 : Nat → Bool} : ∀ {c x : Nat}, (∀ r, x ≤ r → r < x + c → (if g1 r = true then s1 r else []) = (if g2 r = true then s2 r else [])) → zbl s1 g1 c x = zbl s2 g2 c x
  | 0, _, _ => rfl
  | c + 1, x, h => by rw [zbl, zbl, h x (by omega) (by omega), zbl_cong (fun r h1 h2 => h r (by omega) (by omega))]
def zext (pl : Nat → Nat) : Nat → Nat → (Nat → Nat) → Nat → Nat → Nat
  | 0, _, d, _ => d
  | m + 1, j, d, y => zext pl m (j + 1) (zup d (pl j) (8 + y / 8 ^ m)) (y % 8 ^ m)
theorem zext_out (pl : Nat → Nat) {v : Nat} : ∀ m j d y, (∀ i, j ≤ i → i < j + m → pl i ≠ v) → zext pl m j d y v = d v
  | 0, _, _, _, _ => rfl
  | m + 1, j, d, y, h => by
    rw [zext, zext_out pl m (j + 1) _ _ (fun i h1 h2 => h i (by omega) (by omega)), zq_at, if_neg (fun q => h j (by omega) (by omega) q.symm)]
/-- all atoms fit -/
def zfa (R : Nat → Nat → Bool) (A : Nat → zA) (n : Nat) (D : Nat → Nat) : Bool := zall (fun i => R (A i).1 (zaR (A i) (fun v => D v % 8))) n
theorem zaR_col {a : zA} (ha : zaOK a) {w : Nat → Nat} (hw : ∀ v, v < 4 → w v < 8) {c : Nat} (hc : c < 3) : zcol (zaR a w) c = if c < a.2.1 then w (zaV a c) else 0 := by
  have h0 := hw _ (zaV_lt ha (show 0 < 3 by omega))
  have h1 := hw _ (zaV_lt ha (show 1 < 3 by omega))
  have h2 := hw _ (zaV_lt ha (show 2 < 3 by omega))
  have hw1 : 1 ≤ a.2.1 := ha.2.1
  have e0 : w a.2.2.1 = w (zaV a 0) := rfl
  have e1 : w a.2.2.2.1 = w (zaV a 1) := rfl
  have e2 : w a.2.2.2.2 = w (zaV a 2) := rfl
  unfold zaR zcol
  rw [e0, e1, e2]
  have : c = 0 ∨ c = 1 ∨ c = 2 := by omega
  rcases this with e | e | e <;> subst e <;> simp only [Nat.reduceSub, Nat.reducePow] <;> split <;> split <;> (try split) <;> omega
theorem zaR_zin {a : zA} (ha : zaOK a) {w : Nat → Nat} (hw : ∀ v, v < 4 → w v < 8) : zin a.2.1 (zaR a w) := by
  constructor
  · intro h; rw [zaR_col ha hw (by omega), if_neg (by omega)]
  · intro h; rw [zaR_col ha hw (by omega), if_neg (by omega)]
theorem zk_eq {k l : Nat} (hk : k < 512) (hl : l < 512) (h : ∀ c, c < 3 → zcol k c = zcol l c) : k = l := by
  have h1 := (zcol_k hk).1
  have h2 := (zcol_k hl).1
  rw [h1, h2, h 0 (by omega), h 1 (by omega), h 2 (by omega)]
theorem zfit_iff {a : zA} {d : Nat → Nat} {k : Nat} (ha : zaOK a) : zfit a d k = true ↔ (∀ c, c < a.2.1 → zpin d (zaV a c) (zcol k c) = true) ∧ ∀ c c', c < a.2.1 → c' < c → zaV a c = zaV a c' → zcol k c = zcol k c' := by
  have hw : a.2.1 ≤ 3 := ha.2.2.1
  have hw1 : 1 ≤ a.2.1 := ha.2.1
  unfold zfit zaG
  simp only [Bool.and_eq_true, Bool.or_eq_true, decide_eq_true_eq]
  constructor
  · rintro ⟨⟨⟨g0, g1⟩, g2⟩, g3, g4, g5⟩
    refine ⟨?_, ?_⟩
    · intro c hc
      have : c = 0 ∨ c = 1 ∨ c = 2 := by omega
      rcases this with e | e | e <;> subst e
      · exact g0
      · exact g1.resolve_left (by omega)
      · exact g2.resolve_left (by omega)
    · intro c c' hc hc' e
      have : (c = 1 ∧ c' = 0) ∨ (c = 2 ∧ c' = 0) ∨ (c = 2 ∧ c' = 1) := by omega
      rcases this with ⟨e1, e2⟩ | ⟨e1, e2⟩ | ⟨e1, e2⟩ <;> subst e1 e2
      · exact g3 hc e
      · exact g4 hc e
      · exact g5 hc e
  · rintro ⟨h1, h2⟩
    refine ⟨⟨⟨h1 0 (by omega), ?_⟩, ?_⟩, fun q e => h2 1 0 q (by omega) e, fun q e => h2 2 0 q (by omega) e, fun q e => h2 2 1 q (by omega) e⟩
    · by_cases q : a.2.1 ≤ 1
      · exact Or.inl q
      · exact Or.inr (h1 1 (by omega))
    · by_cases q : a.2.1 ≤ 2
      · exact Or.inl q
      · exact Or.inr (h1 2 (by omega))
theorem zcv_ok {a : zA} {v : Nat} (ha : zaOK a) (h : zaH a v = true) : zcv a v < a.2.1 ∧ zaV a (zcv a v) = v := by
  have hw1 : 1 ≤ a.2.1 := ha.2.1
  unfold zaH at h
  simp only [Bool.or_eq_true, Bool.and_eq_true, decide_eq_true_eq] at h
  unfold zcv
  by_cases c0 : a.2.2.1 = v
  · rw [if_pos c0]; exact ⟨by omega, c0⟩
  · rw [if_neg c0]
    by_cases c1 : 1 < a.2.1 ∧ a.2.2.2.1 = v
    · rw [if_pos c1]; exact ⟨c1.1, c1.2⟩
    · rw [if_neg c1]
      rcases h with (h | h) | h
      · exact absurd h c0
      · exact absurd h c1
      · exact ⟨h.1, h.2⟩
theorem zaH_iff {a : zA} {v : Nat} (ha : zaOK a) : zaH a v = true ↔ ∃ c, c < a.2.1 ∧ zaV a c = v := by
  constructor
  · intro h; exact ⟨_, zcv_ok ha h⟩
  · rintro ⟨c, hc, e⟩
    have hw : a.2.1 ≤ 3 := ha.2.2.1
    unfold zaH
    simp only [Bool.or_eq_true, Bool.and_eq_true, decide_eq_true_eq]
    have : c = 0 ∨ c = 1 ∨ c = 2 := by omega
    rcases this with q | q | q <;> subst q
    · exact Or.inl (Or.inl e)
    · exact Or.inl (Or.inr ⟨hc, e⟩)
    · exact Or.inr ⟨hc, e⟩
theorem zaR_cong {a : zA} (ha : zaOK a) {w w' : Nat → Nat} (h : ∀ q, q < a.2.1 → w (zaV a q) = w' (zaV a q)) : zaR a w = zaR a w' := by
  have e0 : w a.2.2.1 = w' a.2.2.1 := h 0 ha.2.1
  have e1 : 1 < a.2.1 → w a.2.2.2.1 = w' a.2.2.2.1 := fun q => h 1 q
  have e2 : 2 < a.2.1 → w a.2.2.2.2 = w' a.2.2.2.2 := fun q => h 2 q
  unfold zaR
  rw [e0]
  by_cases w1 : 1 < a.2.1
  · rw [e1 w1]
    by_cases w2 : 2 < a.2.1
    · rw [e2 w2]
    · rw [if_neg w2, if_neg w2]
  · rw [if_neg w1, if_neg w1, if_neg (by omega), if_neg (by omega)]
theorem zS_list (R : Nat → Nat → Bool) (A : Nat → zA) (n : Nat) (pl : Nat → Nat) (c : Nat) (hn : n ≤ 5) (hA : ∀ i, i < n → zaOK (A i)) (hR : ∀ i, i < n → ∀ k, k < 512 → R (A i).1 k = true → zin (A i).2.1 k)
    (hpl : ∀ j, j < c → pl j < 4 ∧ ∃ i, i < n ∧ zaH (A i) (pl j) = true) (hdist : ∀ i j, i < j → j < c → pl i ≠ pl j) (hall : ∀ i, i < n → ∀ v, zaH (A i) v = true → ∃ j, j < c ∧ pl j = v) :
    ∀ m j d key, j + m = c → (∀ i, i < j → 8 ≤ d (pl i)) → (∀ i, j ≤ i → i < c → d (pl i) = 0) → (∀ i, i < n → (∀ v, zaH (A i) v = true → 8 ≤ d v) → R (A i).1 (zaR (A i) (fun v => d v % 8)) = true) →
      (zS R A n pl m j d key).1 = zgen (fun y => zfa R A n (zext pl m j d y)) (fun y => (key * 8 ^ m + y, zcut (zext pl m j d y))) (8 ^ m) := by
  intro m
  induction m with
  | zero =>
    intro j d key hj hd1 hd0 H
    have hf : zfa R A n d = true := by
      unfold zfa
      rw [zall_iff]
      intro i hi
      apply H i hi
      intro v hv
      obtain ⟨j', hj', e⟩ := hall i hi v hv
      rw [← e]; exact hd1 j' (by omega)
    show [(key, zcut d)] = _
    rw [Nat.pow_zero]
    show _ = [] ++ (if zfa R A n d = true then [(key * 1 + 0, zcut d)] else [])
    rw [if_pos hf]; simp
  | succ m ih =>
    intro j d key hj hd1 hd0 H
    obtain ⟨hp4, i0, hi0, hp0⟩ := hpl j (by omega)
    have hcn := zcnt_le (fun i => zaH (A i) (pl j)) n
    have hall1 : 1 ≤ zcnt (fun i => zaH (A i) (pl j)) n := by
      have h1 := zcnt_mono (fun i => zaH (A i) (pl j)) (show i0 + 1 ≤ n by omega)
      rw [zcnt_s, hp0] at h1
      simp at h1; omega
    rw [zS, zIn_list R A n d (pl j) _ hi0 hp0 hn 60 (n - 1) 0 0 (by omega) (by omega) (by omega) (by omega) (fun i _ _ h => by omega)]
    have hB := zgen_blocks (fun y => zfa R A n (zext pl (m + 1) j d y)) (fun y => (key * 8 ^ (m + 1) + y, zcut (zext pl (m + 1) j d y))) (8 ^ m) 8 0
    have e8 : 8 * 8 ^ m = 8 ^ (m + 1) := by rw [Nat.pow_succ, Nat.mul_comm]
    rw [e8] at hB
    simp only [Nat.zero_mul, Nat.zero_add] at hB
    rw [← hB]
    apply zbl_cong
    intro r _ hr
    have hr8 : r < 8 := by omega
    have hpow : 0 < 8 ^ m := Nat.pow_pos (by decide)
    have hext : ∀ y, y < 8 ^ m → zext pl (m + 1) j d (r * 8 ^ m + y) = zext pl m (j + 1) (zup d (pl j) (8 + r)) y := by
      intro y hy
      rw [zext]
      have e1 : (r * 8 ^ m + y) / 8 ^ m = r := by
        rw [Nat.mul_comm, Nat.mul_add_div hpow, Nat.div_eq_of_lt hy, Nat.add_zero]
      have e2 : (r * 8 ^ m + y) % 8 ^ m = y := by
        rw [Nat.mul_comm, Nat.mul_add_mod, Nat.mod_eq_of_lt hy]
      rw [e1, e2]
    have hkey : ∀ y, key * 8 ^ (m + 1) + (r * 8 ^ m + y) = (8 * key + r) * 8 ^ m + y := by
      intro y
      rw [Nat.add_mul, ← e8, ← Nat.mul_assoc, Nat.mul_comm key 8, Nat.add_assoc]
    have hbl : zgen (fun y => zfa R A n (zext pl (m + 1) j d (r * 8 ^ m + y))) (fun y => (key * 8 ^ (m + 1) + (r * 8 ^ m + y), zcut (zext pl (m + 1) j d (r * 8 ^ m + y)))) (8 ^ m) = zgen (fun y => zfa R A n (zext pl m (j + 1) (zup d (pl j) (8 + r)) y)) (fun y => ((8 * key + r) * 8 ^ m + y, zcut (zext pl m (j + 1) (zup d (pl j) (8 + r)) y))) (8 ^ m) := by
      apply zgen_cong
      intro y hy
      rw [hext y hy, hkey y]; exact ⟨rfl, rfl⟩
    rw [if_pos rfl, hbl]
    by_cases hg : zgood R A n d (pl j) r = true
    · rw [if_pos hg]
      apply ih (j + 1) (zup d (pl j) (8 + r)) (8 * key + r) (by omega)
      · intro i hi
        rw [zq_at]
        split
        · omega
        · rename_i q
          exact hd1 i (by
            rcases Nat.lt_or_ge i j with g | g
            · exact g
            · have : i = j := by omega
              subst this; exact absurd rfl q)
      · intro i h1 h2
        rw [zq_at, if_neg (fun q => hdist j i (by omega) h2 q.symm)]
        exact hd0 i (by omega) h2
      · intro i hi hv
        have ha := hA i hi
        by_cases hh : zaH (A i) (pl j) = true
        · have hz : zhas R (A i) d (pl j) r = true := by
            have := zall_iff.mp hg i hi
            rw [hh] at this; simpa using this
          unfold zhas at hz
          rw [zany_iff] at hz
          obtain ⟨k, hk, hz⟩ := hz
          simp only [Bool.and_eq_true, decide_eq_true_eq] at hz
          obtain ⟨⟨hz1, hz2⟩, hz3⟩ := hz
          rw [zfit_iff ha] at hz2
          obtain ⟨hz4, hz5⟩ := hz2
          obtain ⟨hc1, hc2⟩ := zcv_ok ha hh
          have hin := hR i hi k hk hz1
          have hw8 : ∀ v, v < 4 → (fun v => zup d (pl j) (8 + r) v % 8) v < 8 := fun v _ => Nat.mod_lt _ (by decide)
          have : k = zaR (A i) (fun v => zup d (pl j) (8 + r) v % 8) := by
            apply zk_eq hk (zaR_lt _ hw8 ha)
            intro q hq
            rw [zaR_col ha hw8 hq]
            by_cases hqw : q < (A i).2.1
            · rw [if_pos hqw]
              by_cases hvq : zaV (A i) q = pl j
              · have e1 : zcol k q = zcol k (zcv (A i) (pl j)) := by
                  rcases Nat.lt_trichotomy q (zcv (A i) (pl j)) with g | g | g
                  · exact (hz5 _ _ hc1 g (by rw [hc2, hvq])).symm
                  · rw [← g]
                  · exact hz5 _ _ hqw g (by rw [hc2, hvq])
                rw [e1, hz3]
                show r = zup d (pl j) (8 + r) (zaV (A i) q) % 8
                rw [hvq, zq_at, if_pos rfl]; omega
              · have h1 := hz4 q hqw
                have h2 := hv (zaV (A i) q) ((zaH_iff ha).mpr ⟨q, hqw, rfl⟩)
                rw [zq_at, if_neg hvq] at h2
                show _ = zup d (pl j) (8 + r) (zaV (A i) q) % 8
                rw [zq_at, if_neg hvq]
                unfold zpin at h1
                rw [decide_eq_false (by omega), Bool.false_or, decide_eq_true_eq] at h1
                exact h1
            · rw [if_neg hqw]
              have hw1 := ha.2.1
              have : q = 1 ∨ q = 2 := by omega
              rcases this with e | e <;> subst e
              · exact hin.1 (by omega)
              · exact hin.2 (by omega)
          rw [← this]; exact hz1
        · have hH := H i hi (fun v hvv => by
            have h1 := hv v hvv
            rw [zq_at, if_neg (fun q => hh (by rw [← q]; exact hvv))] at h1
            exact h1)
          have : zaR (A i) (fun v => zup d (pl j) (8 + r) v % 8) = zaR (A i) (fun v => d v % 8) := by
            have e : ∀ q, q < (A i).2.1 → zup d (pl j) (8 + r) (zaV (A i) q) = d (zaV (A i) q) := by
              intro q hq
              rw [zq_at, if_neg (fun g => hh (by rw [← g]; exact (zaH_iff ha).mpr ⟨q, hq, rfl⟩))]
            exact zaR_cong ha (fun q hq => by show zup d (pl j) (8 + r) (zaV (A i) q) % 8 = _; rw [e q hq])
          rw [this]; exact hH
    · rw [if_neg hg, zgen_none]
      intro y hy
      rw [← Bool.not_eq_true]
      intro hf
      apply hg
      unfold zgood
      rw [zall_iff]
      intro i hi
      cases hh : zaH (A i) (pl j)
      · rfl
      · have ha := hA i hi
        have hfi := zall_iff.mp hf i hi
        have hw8 : ∀ v, v < 4 → (fun v => zext pl m (j + 1) (zup d (pl j) (8 + r)) y v % 8) v < 8 := fun v _ => Nat.mod_lt _ (by decide)
        rw [Bool.not_true, Bool.false_or]
        unfold zhas
        rw [zany_iff]
        refine ⟨zaR (A i) (fun v => zext pl m (j + 1) (zup d (pl j) (8 + r)) y v % 8), zaR_lt _ hw8 ha, ?_⟩
        simp only [Bool.and_eq_true, decide_eq_true_eq]
        have hDj : zext pl m (j + 1) (zup d (pl j) (8 + r)) y (pl j) = 8 + r := by
          rw [zext_out pl m (j + 1) _ _ (fun i h1 h2 q => hdist j i (by omega) (by omega) q.symm), zq_at, if_pos rfl]
        obtain ⟨hc1, hc2⟩ := zcv_ok ha hh
        have hw3 := ha.2.2.1
        refine ⟨⟨hfi, ?_⟩, ?_⟩
        · rw [zfit_iff ha]
          refine ⟨?_, ?_⟩
          · intro q hq
            rw [zaR_col ha hw8 (by omega), if_pos hq]
            unfold zpin
            by_cases hz : d (zaV (A i) q) = 0
            · rw [decide_eq_true hz]; rfl
            · have hD : zext pl m (j + 1) (zup d (pl j) (8 + r)) y (zaV (A i) q) = d (zaV (A i) q) := by
                rw [zext_out pl m (j + 1) _ _ (fun i' h1 h2 g => hz (by rw [← g]; exact hd0 i' (by omega) (by omega))), zq_at, if_neg (fun g => hz (by rw [g]; exact hd0 j (by omega) (by omega)))]
              rw [hD]; simp
          · intro q q' hq hq' e
            rw [zaR_col ha hw8 (by omega), zaR_col ha hw8 (by omega), if_pos hq, if_pos (by omega), e]
        · rw [zaR_col ha hw8 (by omega), if_pos hc1, hc2, hDj]; omega
