/-! idle facts cleared on both sides -/
def zcli (s : Nat → Nat) (t : Nat) (m : Nat → Bool) (i j : Nat) : Nat := if 6 + 512 * t ≤ j ∧ j < 6 + 512 * t + i ∧ m (j - (6 + 512 * t)) = false then 0 else s j
theorem zcli_facts {s : Nat → Nat} (hf1 : zf1 s) {t : Nat} (ht : t < 5) (m : Nat → Bool) (t' k : Nat) (ht' : t' < 5) (hk : k < 512) : zfacts (zcli s t m 512) t' k = (zfacts s t' k && (!decide (t' = t) || m k)) := by
  unfold zfacts zcli
  by_cases g : t' = t
  · rw [g, decide_eq_true (rfl : t = t), show 6 + 512 * t + k - (6 + 512 * t) = k by omega]
    cases e : m k
    · rw [if_pos ⟨by omega, by omega, rfl⟩]
      simp
    · rw [if_neg (by simp)]
      simp
  · rw [decide_eq_false g, if_neg (by omega)]
    simp
theorem zcnt_pm (p m : Nat → Bool) : ∀ n, zcnt (fun k => p k && m k) n + zcnt (fun k => p k && !m k) n = zcnt p n
  | 0 => rfl
  | n + 1 => by
    have := zcnt_pm p m n
    rw [zcnt_s, zcnt_s, zcnt_s]
    cases p n <;> cases m n <;> simp <;> omega
theorem zcli_WF {s : Nat → Nat} (hW : zWF s) {t : Nat} (ht : t < 5) (m : Nat → Bool) : zWF (zcli s t m 512) ∧ zsmR s (zcli s t m 512) ∧ (∀ q, q < 4 → zsmQ s (zcli s t m 512) q) ∧ zsmT s (zcli s t m 512) := by
  have hf1 := hW.2.2.1
  have sub : ∀ t' k, t' < 5 → k < 512 → zfacts (zcli s t m 512) t' k = true → zfacts s t' k = true := by
    intro t' k ht' hk h
    rw [zcli_facts hf1 ht m t' k ht' hk, Bool.and_eq_true] at h
    exact h.1
  refine zWF_facts hW ?_ ?_ (fun t' k ht' hk h => hW.2.2.2.1 t' k ht' hk (sub t' k ht' hk h)) ?_
  · intro i hi h
    unfold zcli
    rw [if_neg (by omega)]
  · intro i hi
    unfold zcli
    split
    · omega
    · exact hf1 i hi
  · intro t' ht'
    exact Nat.le_trans (zcnt_inj (f := fun k => k) 512 (zfacts s t') (fun k hk h => ⟨hk, sub t' k ht' hk h⟩) (fun y z h _ => by omega)) (hW.2.2.2.2.1 t' ht')
