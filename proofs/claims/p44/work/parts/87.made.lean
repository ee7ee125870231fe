/-! the rows of an atom that no answer makes; covers -/
abbrev zR20m := (Nat → Int32) × Int32 × (Nat → Int32) × (Nat → Int32) × (Nat → Int32) × (Nat → Int32) × (Nat → Int32) × (Nat → Int32) × Int32 × Int32 × Int32 × Int32 × Int32 × (Nat → Int64) × (Nat → Int64) × (Nat → Int32) × (Nat → Int32) × (Nat → Int32) × Int32 × Int32 × (Nat → Int32) × Int32 × (Nat → Int32) × (Nat → Int32) × (Nat → Int32) × (Nat → Int32) × (Nat → Int32) × (Nat → Int32) × Int32 × Int32 × Int32 × Int32 × Int32 × (Nat → Int64) × Int32 × Int32 × (Nat → Int64) × Int32
/-- an answer's rows are there -/
theorem zqP_row {R : Nat → Nat → Bool} {s : Nat → Nat} {q y i : Nat} (hQ : zQ s q) (ho : zOr (zqo s q)) (hi : i < zqn s q) (h : zqP R s q y = true) : R (zqa s q i).1 (zaR (zqa s q i) (zvy s q y)) = true := by
  unfold zqP zans at h
  simp only [Bool.and_eq_true, decide_eq_true_eq] at h
  obtain ⟨⟨h0, h1⟩, h2⟩ := h
  have h3 := zall_iff.1 h2 i hi
  have h4 : zaR (zqa s q i) (fun v => zext (zqpl s q) (zqc s q) 0 z0 y v % 8) = zaR (zqa s q i) (zvy s q y) := by
    have : (fun v => zext (zqpl s q) (zqc s q) 0 z0 y v % 8) = zvy s q y := by
      funext v
      unfold zvy
      rw [zpk_ext (zqD ho) h1]
    rw [this]
  rw [h4] at h3
  exact h3
theorem zcnt_diff {p m : Nat → Bool} : ∀ n, (∀ k, k < n → m k = true → p k = true) → zcnt (fun k => p k && !m k) n + zcnt m n = zcnt p n
  | 0, _ => rfl
  | n + 1, h => by
    have ih := zcnt_diff n (fun k hk => h k (by omega))
    have hn := h n (by omega)
    rw [zcnt_s, zcnt_s, zcnt_s]
    cases e1 : p n <;> cases e2 : m n
    · simp; omega
    · rw [e1, e2] at hn; exact absurd (hn rfl) (by decide)
    · simp; omega
    · simp; omega
theorem zX11_markMade (K : Nat) (hK : 5000 < K) {s : Nat → Nat} {k i : Nat} {R : Nat → Nat → Bool} {r : zR15} (hfd : zFd R (zqa s k) (zqn s k) (zqpl s k) (zqc s k) r) (ha : zaOK (zqa s k i)) (pk : Int32) (md : Nat → Int64) :
    ∃ pk' md', fX11_markMade K r.2.2.1 r.2.2.2.2.2.2.2.2.1 r.2.2.2.2.2.2.2.2.2.2.2.2.2.1 r.2.2.2.2.2.2.2.2.2.2.2.2.2.2 (nI (zaC (zqa s k i) false)) pk md = some (pk', md') ∧ ∀ t j, t < 5 → j < 512 → zw md' t j = (decide (t = (zqa s k i).1) && zmade R s k (zqa s k i) 4096 j) := by
  have hcl := zcnt_le (zqP R s k) 4096
  obtain ⟨md0, e0, h0⟩ := zX7_clear K (by omega) md
  have hq14 : r.2.2.2.2.2.2.2.2.2.2.2.2.2.2 = nI (zcnt (zqP R s k) 4096) := hfd.2.2.2.2.2
  unfold fX11_markMade
  rw [e0, Option.bind_some, hq14, hfd.2.2.1]
  obtain ⟨_, ⟨pk', md', rfl, h⟩, e⟩ := z_for (F := fun m i' (u : Nat × Int32 × (Nat → Int64)) => fX11_markMade_11 K r.2.2.1 (nI (zqc s k)) r.2.2.2.2.2.2.2.2.2.2.2.2.2.1 (nI (zcnt (zqP R s k) 4096)) (nI (zaC (zqa s k i) false)) m (if u.1 = 0 then -1 else nI (u.1 - 1)) (nI i') u.2.1 u.2.2) (n := zcnt (zqP R s k) 4096) (inv := fun i' u => u.1 ≤ 4096 ∧ zcnt (zqP R s k) u.1 = i' ∧ ∀ t j, t < 5 → j < 512 → zw u.2.2 t j = (decide (t = (zqa s k i).1) && zmade R s k (zqa s k i) u.1 j)) (post := fun o => ∃ pk' md', o = (pk', md') ∧ ∀ t j, t < 5 → j < 512 → zw md' t j = (decide (t = (zqa s k i).1) && zmade R s k (zqa s k i) 4096 j))
    (by
      intro m i' u hi' hinv
      obtain ⟨h1, h2, h3⟩ := hinv
      left
      obtain ⟨y, y1, y2, y3, y4, y5, y6⟩ := zpick_step K (by omega) (w := r.2.2.2.2.2.2.2.2.2.2.2.2.2.1) (seq := r.2.2.1) hfd.1 hfd.2.1 (P := zqP R s k) (fun y hy => hfd.2.2.2.2.1 y hy) h1 (by omega) u.2.1
      have hrow : fX1_row K (nI (zaC (zqa s k i) false)) (nI (zch (zpk (zqpl s k) (zqc s k) y (zqc s k)))) = some (nI (zaR (zqa s k i) (zvy s k y))) := zX1_row K (by omega) ha false (fun v _ => zpk_lt _ _ _ _ v)
      have hrl := zaR_lt (zvy s k y) (fun v _ => zvy_lt s k y v) ha
      obtain ⟨md2, e2, hmd2⟩ := zX7_add u.2.2 ha.1 hrl
      refine ⟨(y + 1, nI (zch (zpk (zqpl s k) (zqc s k) y (zqc s k))), md2), ⟨by omega, by show zcnt (zqP R s k) (y + 1) = i' + 1; omega, ?_⟩, ?_⟩
      · intro t j ht hj
        show zw md2 t j = (decide (t = (zqa s k i).1) && zmade R s k (zqa s k i) (y + 1) j)
        rw [hmd2 t j ht hj, h3 t j ht hj]
        have hz : zmade R s k (zqa s k i) (y + 1) j = (zmade R s k (zqa s k i) u.1 j || decide (j = zaR (zqa s k i) (zvy s k y))) := by
          rw [Bool.eq_iff_iff, Bool.or_eq_true, decide_eq_true_eq]
          unfold zmade
          rw [zany_iff, zany_iff]
          constructor
          · rintro ⟨z, z1, z2⟩
            simp only [Bool.and_eq_true, decide_eq_true_eq] at z2
            by_cases g : z < u.1
            · left; exact ⟨z, g, by simp only [Bool.and_eq_true, decide_eq_true_eq]; exact z2⟩
            · right
              by_cases g2 : z = y
              · rw [← g2]; exact z2.2.symm
              · have := y5 z (by omega) (by omega)
                rw [z2.1] at this; cases this
          · rintro (⟨z, z1, z2⟩ | g)
            · exact ⟨z, by omega, z2⟩
            · exact ⟨y, by omega, by simp only [Bool.and_eq_true, decide_eq_true_eq]; exact ⟨y3, g.symm⟩⟩
        rw [hz]
        cases decide (t = (zqa s k i).1) <;> simp
      · show fX11_markMade_11 K r.2.2.1 (nI (zqc s k)) r.2.2.2.2.2.2.2.2.2.2.2.2.2.1 (nI (zcnt (zqP R s k) 4096)) (nI (zaC (zqa s k i) false)) (m + 1) (if u.1 = 0 then -1 else nI (u.1 - 1)) (nI i') u.2.1 u.2.2 = _
        rw [fX11_markMade_11, if_neg (by rw [zi_le (by omega) (by omega)]; omega), y6, Option.bind_some, zX1_table ha false, Option.bind_some, hrow, Option.bind_some, e2, Option.bind_some]
        show fX11_markMade_11 K r.2.2.1 (nI (zqc s k)) r.2.2.2.2.2.2.2.2.2.2.2.2.2.1 (nI (zcnt (zqP R s k) 4096)) (nI (zaC (zqa s k i) false)) m (nI y) (nI i' + 1) (nI (zch (zpk (zqpl s k) (zqc s k) y (zqc s k)))) md2 = fX11_markMade_11 K r.2.2.1 (nI (zqc s k)) r.2.2.2.2.2.2.2.2.2.2.2.2.2.1 (nI (zcnt (zqP R s k) 4096)) (nI (zaC (zqa s k i) false)) m (if y + 1 = 0 then -1 else nI (y + 1 - 1)) (nI (i' + 1)) (nI (zch (zpk (zqpl s k) (zqc s k) y (zqc s k)))) md2
        rw [if_neg (show ¬ y + 1 = 0 by omega), show y + 1 - 1 = y by omega, nI_succ])
    (by
      intro m u hinv
      obtain ⟨h1, h2, h3⟩ := hinv
      refine ⟨_, ⟨u.2.1, u.2.2, rfl, ?_⟩, ?_⟩
      · intro t j ht hj
        rw [h3 t j ht hj]
        have : zmade R s k (zqa s k i) u.1 j = zmade R s k (zqa s k i) 4096 j := by
          rw [Bool.eq_iff_iff]
          unfold zmade
          rw [zany_iff, zany_iff]
          constructor
          · rintro ⟨z, z1, z2⟩
            exact ⟨z, by omega, z2⟩
          · rintro ⟨z, z1, z2⟩
            refine ⟨z, ?_, z2⟩
            apply Classical.byContradiction
            intro g
            simp only [Bool.and_eq_true, decide_eq_true_eq] at z2
            have c1 := zcnt_mono (zqP R s k) (show u.1 ≤ z by omega)
            have c2 := zcnt_mono (zqP R s k) (show z + 1 ≤ 4096 by omega)
            rw [zcnt_s, z2.1] at c2
            have e1 : (true).toNat = 1 := rfl
            omega
        rw [this]
      · show fX11_markMade_11 K r.2.2.1 (nI (zqc s k)) r.2.2.2.2.2.2.2.2.2.2.2.2.2.1 (nI (zcnt (zqP R s k) 4096)) (nI (zaC (zqa s k i) false)) (m + 1) (if u.1 = 0 then -1 else nI (u.1 - 1)) (nI (zcnt (zqP R s k) 4096)) u.2.1 u.2.2 = _
        rw [fX11_markMade_11, if_pos (by rw [zi_le (by omega) (by omega)]; omega)])
    (zcnt (zqP R s k) 4096) K 0 (0, pk, md0) (by omega) ⟨by show 0 ≤ 4096; omega, rfl, fun t j ht hj => by
      show zw md0 t j = _
      rw [h0 t j ht hj]
      have : zmade R s k (zqa s k i) 0 j = false := rfl
      show false = (decide (t = (zqa s k i).1) && zmade R s k (zqa s k i) 0 j)
      rw [this, Bool.and_false]⟩ (by omega)
  exact ⟨pk', md', e, h⟩
