/-! idle facts cleared on both sides -/
def zcli (s : Nat → Nat) (t : Nat) (m : Nat → Bool) (i j : Nat) : Nat := if 6 + 512 * t ≤ j ∧ j < 6 + 512 * t + i ∧ m (j - (6 + 512 * t)) = false then 0 else s j
theorem zcli_facts {s : Nat → Nat} (hf1 : zf1 s) {t : Nat} (ht : t < 5) (m : Nat → Bool) (t' k : Nat) (ht' : t' < 5) (hk : k < 512) : zfacts (zcli s t m 512) t' k = (zfacts s t' k && (!decide (t' = t) || m k)) := by
  unfold zfacts zcli
  by_cases g : t' = t
  · rw [g, decide_eq_true (rfl : t = t), show 6 + 512 * t + k - (6 + 512 * t) = k by omega]
    cases e : m k
    · rw [if_pos ⟨by omega, by omega, rfl⟩]
      simp
    · rw [if_neg (by simp)]
      simp
  · rw [decide_eq_false g, if_neg (by omega)]
    simp
theorem zcnt_pm (p m : Nat → Bool) : ∀ n, zcnt (fun k => p k && m k) n + zcnt (fun k => p k && !m k) n = zcnt p n
  | 0 => rfl
  | n + 1 => by
    have := zcnt_pm p m n
    rw [zcnt_s, zcnt_s, zcnt_s]
    cases p n <;> cases m n <;> simp <;> omega
theorem zcli_WF {s : Nat → Nat} (hW : zWF s) {t : Nat} (ht : t < 5) (m : Nat → Bool) : zWF (zcli s t m 512) ∧ zsmR s (zcli s t m 512) ∧ (∀ q, q < 4 → zsmQ s (zcli s t m 512) q) ∧ zsmT s (zcli s t m 512) := by
  have hf1 := hW.2.2.1
  have sub : ∀ t' k, t' < 5 → k < 512 → zfacts (zcli s t m 512) t' k = true → zfacts s t' k = true := by
    intro t' k ht' hk h
    rw [zcli_facts hf1 ht m t' k ht' hk, Bool.and_eq_true] at h
    exact h.1
  refine zWF_facts hW ?_ ?_ (fun t' k ht' hk h => hW.2.2.2.1 t' k ht' hk (sub t' k ht' hk h)) ?_
  · intro i hi h
    unfold zcli
    rw [if_neg (by omega)]
  · intro i hi
    unfold zcli
    split
    · omega
    · exact hf1 i hi
  · intro t' ht'
    exact Nat.le_trans (zcnt_inj (f := fun k => k) 512 (zfacts s t') (fun k hk h => ⟨hk, sub t' k ht' hk h⟩) (fun y z h _ => by omega)) (hW.2.2.2.2.1 t' ht')
theorem zX12_clearIdle61 (K : Nat) (hK : 1000000 < K) {now : Nat → Int32} {s : Nat → Nat} (hm : zM now s) (hW : zWF s) {t : Nat} (ht : t < 5) {m : Nat → Bool} {made : Nat → Int32} (hmade : ∀ k, k < 512 → made k = bI (m k)) (p1 p2 : Int32) (before : Nat → Int32) (ch : Int32) (row comes layer : Nat → Int32) (ro : Int32) (value place : Nat → Int32) (places : Int32) :
    ∃ now', zM now' (zcli s t m 512) ∧ fX12_clearIdle_61 K p1 p2 K (nI t) 0 0 now before ch 0 row comes layer ro value place places made = (fX12_follows K now' row comes layer ro value).bind fun q119 => some (nI (zcnt (fun k => zfacts s t k && !m k) 512), now', before, ch, 0, q119.1, q119.2.1, q119.2.2.1, q119.2.2.2.1, q119.2.2.2.2, place, places, made) := by
  have e512 : (512 : Int32) = nI 512 := rfl
  have hf1 := hW.2.2.1
  obtain ⟨now', h1, e⟩ := z_forD (F := fun k i (nw : Nat → Int32) => fX12_clearIdle_61 K p1 p2 k (nI t) (nI (zcnt (fun k => zfacts s t k && !m k) i)) (nI i) nw before ch 0 row comes layer ro value place places made) (n := 512) (inv := fun i nw => zM nw (zcli s t m i)) (D := fun nw => (fX12_follows K nw row comes layer ro value).bind fun q119 => some (nI (zcnt (fun k => zfacts s t k && !m k) 512), nw, before, ch, 0, q119.1, q119.2.1, q119.2.2.1, q119.2.2.2.1, q119.2.2.2.2, place, places, made))
    (by
      intro k i nw hi hv
      have hfi : zfacts (zcli s t m i) t i = zfacts s t i := by
        unfold zfacts zcli
        rw [if_neg (by omega)]
      have st : fX12_clearIdle_61 K p1 p2 (k + 1) (nI t) (nI (zcnt (fun k => zfacts s t k && !m k) i)) (nI i) nw before ch 0 row comes layer ro value place places made = if bI (zfacts s t i) = 0 then fX12_clearIdle_61 K p1 p2 k (nI t) (nI (zcnt (fun k => zfacts s t k && !m k) i)) (nI i + (1 : Int32)) nw before ch 0 row comes layer ro value place places made else if bI (m i) = 0 then fX12_clearIdle_61 K p1 p2 k (nI t) (nI (zcnt (fun k => zfacts s t k && !m k) i) + (1 : Int32)) (nI i + (1 : Int32)) (upd nw (6 + 512 * t + i) 0) before ch 0 row comes layer ro value place places made else fX12_clearIdle_61 K p1 p2 k (nI t) (nI (zcnt (fun k => zfacts s t k && !m k) i)) (nI i + (1 : Int32)) nw before ch 0 row comes layer ro value place places made := by
        have e7 : ((6 : Int32) + ((512 : Int32) * nI t)) + nI i = nI (6 + 512 * t + i) := by rw [show (6 : Int32) = nI 6 from rfl, e512, zi_mul, zi_add, zi_add]
        rw [fX12_clearIdle_61, if_neg (show ¬ (512 : Int32) ≤ nI i by rw [e512, zi_le (by omega) (by omega)]; omega), zX12_isFactAt hv ht hi, Option.bind_some, hfi, if_pos (show inB (nI i) 512 = true by rw [zi_inB (by omega)]; omega), zi_clamp (by omega), hmade i hi, e7, if_pos (show inB (nI (6 + 512 * t + i)) 2780 = true by rw [zi_inB (by omega)]; omega), zi_clamp (by omega)]
        rfl
      have keep : (zfacts s t i = false ∨ m i = true) → zM nw (zcli s t m (i + 1)) := by
        intro hc j hj
        have hh := hv j hj
        unfold zcli at hh ⊢
        by_cases g : j = 6 + 512 * t + i
        · rw [if_neg (by omega)] at hh
          rw [g] at hh ⊢
          rcases hc with hc | hc
          · have hs0 : s (6 + 512 * t + i) = 0 := by
              have h1 := hf1 (512 * t + i) (by omega)
              unfold zfacts at hc
              have h2 := of_decide_eq_false hc
              rw [show 6 + (512 * t + i) = 6 + 512 * t + i by omega] at h1
              omega
            rw [hs0] at hh ⊢
            split <;> exact hh
          · rw [show 6 + 512 * t + i - (6 + 512 * t) = i by omega, hc, if_neg (by simp)]
            exact hh
        · by_cases g2 : 6 + 512 * t ≤ j ∧ j < 6 + 512 * t + i ∧ m (j - (6 + 512 * t)) = false
          · rw [if_pos g2] at hh
            rw [if_pos ⟨g2.1, by omega, g2.2.2⟩]
            exact hh
          · rw [if_neg g2] at hh
            rw [if_neg (fun g3 => g2 ⟨g3.1, by omega, g3.2.2⟩)]
            exact hh
      cases ef : zfacts s t i
      · refine ⟨nw, keep (Or.inl ef), ?_⟩
        show fX12_clearIdle_61 K p1 p2 (k + 1) (nI t) (nI (zcnt (fun k => zfacts s t k && !m k) i)) (nI i) nw before ch 0 row comes layer ro value place places made = fX12_clearIdle_61 K p1 p2 k (nI t) (nI (zcnt (fun k => zfacts s t k && !m k) i + (zfacts s t i && !m i).toNat)) (nI (i + 1)) nw before ch 0 row comes layer ro value place places made
        rw [st, ef, if_pos (show bI false = 0 from rfl), nI_succ i]
        rfl
      · cases em : m i
        · refine ⟨upd nw (6 + 512 * t + i) 0, ?_, ?_⟩
          · intro j hj
            have hh := hv j hj
            rw [zu_at]
            unfold zcli at hh ⊢
            by_cases g : j = 6 + 512 * t + i
            · rw [if_pos g, g, show 6 + 512 * t + i - (6 + 512 * t) = i by omega, em, if_pos ⟨by omega, by omega, rfl⟩]
              exact ⟨rfl, by omega⟩
            · rw [if_neg g]
              by_cases g2 : 6 + 512 * t ≤ j ∧ j < 6 + 512 * t + i ∧ m (j - (6 + 512 * t)) = false
              · rw [if_pos g2] at hh
                rw [if_pos ⟨g2.1, by omega, g2.2.2⟩]
                exact hh
              · rw [if_neg g2] at hh
                rw [if_neg (fun g3 => g2 ⟨g3.1, by omega, g3.2.2⟩)]
                exact hh
          · show fX12_clearIdle_61 K p1 p2 (k + 1) (nI t) (nI (zcnt (fun k => zfacts s t k && !m k) i)) (nI i) nw before ch 0 row comes layer ro value place places made = fX12_clearIdle_61 K p1 p2 k (nI t) (nI (zcnt (fun k => zfacts s t k && !m k) i + (zfacts s t i && !m i).toNat)) (nI (i + 1)) (upd nw (6 + 512 * t + i) 0) before ch 0 row comes layer ro value place places made
            rw [st, ef, em, if_neg (show ¬ bI true = 0 by decide), if_pos (show bI false = 0 from rfl), nI_succ i]
            rw [show (1 : Int32) = nI 1 from rfl, zi_add, zi_add]
            rfl
        · refine ⟨nw, keep (Or.inr em), ?_⟩
          show fX12_clearIdle_61 K p1 p2 (k + 1) (nI t) (nI (zcnt (fun k => zfacts s t k && !m k) i)) (nI i) nw before ch 0 row comes layer ro value place places made = fX12_clearIdle_61 K p1 p2 k (nI t) (nI (zcnt (fun k => zfacts s t k && !m k) i + (zfacts s t i && !m i).toNat)) (nI (i + 1)) nw before ch 0 row comes layer ro value place places made
          rw [st, ef, em, if_neg (show ¬ bI true = 0 by decide), if_neg (show ¬ bI true = 0 by decide), nI_succ i]
          rfl)
    (by
      intro k nw _
      show fX12_clearIdle_61 K p1 p2 (k + 1) (nI t) (nI (zcnt (fun k => zfacts s t k && !m k) 512)) (nI 512) nw before ch 0 row comes layer ro value place places made = _
      rw [fX12_clearIdle_61, if_pos (show (512 : Int32) ≤ nI 512 by decide)]) 512 K 0 now (by omega) (by
        intro j hj
        unfold zcli
        rw [if_neg (by omega)]
        exact hm j hj) (by omega)
  exact ⟨now', h1, e⟩
