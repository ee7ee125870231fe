/-! reasons -/
def zre (R : Nat → Nat → Bool) (s : Nat → Nat) (t k : Nat) : Nat := if R t k = true then (zfacts s t k).toNat + zttl R s t k (zrn s) else 0
theorem zttl_le (R : Nat → Nat → Bool) (s : Nat → Nat) (t k : Nat) : ∀ n, zttl R s t k n ≤ 4096 * n := by
  intro n
  induction n with
  | zero => exact Nat.le_refl 0
  | succ n ih =>
    show zttl R s t k n + (if zidle s n = false ∧ t = (zrh s n).1 then zfirk R s n k else 0) ≤ _
    have h1 : zfirk R s n k ≤ 4096 := Nat.le_trans (zcnt_le _ _) (zp8 (zrc_le s n))
    split <;> omega
theorem zre_le {s : Nat → Nat} (hs : zRul s) (R : Nat → Nat → Bool) (t k : Nat) : zre R s t k ≤ 20481 := by
  have h1 := zttl_le R s t k (zrn s)
  have h2 := Bool.toNat_le (zfacts s t k)
  have h3 := hs.1
  unfold zre
  split <;> omega
theorem zX4_reasonsOf {s : Nat → Nat} (hs : zRul s) {M : Nat → Nat} (hM : zLst (zE s) M) (hM4 : ∀ t, t < 5 → M t ≤ 4) {re : Nat → Int32} (hre : ∀ t k, t < 5 → k < 512 → re (512 * t + k) = nI (zttl (zly s M 5).1 s t k (zrn s))) {fa : Nat → Int64} (hfa : zeqR (zw fa) (zfacts s)) {t k : Nat} (ht : t < 5) (hk : k < 512) : fX4_reasonsOf re fa (nI t) (nI k) = some (nI (zre (zly s M 5).1 s t k)) := by
  have e : fX4_reasonsOf re fa (nI t) (nI k) = some (nI ((zfacts s t k).toNat + zttl (zly s M 5).1 s t k (zrn s))) := by
    unfold fX4_reasonsOf
    rw [show (512 : Int32) = nI 512 from rfl, zi_mul, zi_add, show t * 512 + k = 512 * t + k by omega, zX6_at re (show 512 * t + k < 2560 by omega) (by omega), Option.bind_some, zX7_has fa ht hk, Option.bind_some, hfa t k ht hk, hre t k ht hk]
    cases zfacts s t k
    · rw [if_pos (show bI false = 0 from rfl), show (0 : Int32) = nI 0 from rfl, zi_add]
      show some (nI (_ + 0)) = some (nI (0 + _))
      rw [Nat.add_zero, Nat.zero_add]
    · rw [if_neg (show ¬ bI true = 0 by decide), show (1 : Int32) = nI 1 from rfl, zi_add]
      show some (nI (_ + 1)) = some (nI (1 + _))
      rw [Nat.add_comm]
  rw [e]
  unfold zre
  cases h : (zly s M 5).1 t k
  · rw [if_neg (by decide), zttl_0 hs hM hM4 hk h]
    cases hf : zfacts s t k
    · rfl
    · rw [zly_up hf] at h; exact absurd h (by decide)
  · rw [if_pos rfl]
theorem zX12_isFactAt {now : Nat → Int32} {s : Nat → Nat} (h : zM now s) {t k : Nat} (ht : t < 5) (hk : k < 512) : fX12_isFactAt now (nI t) (nI k) = some (zfacts s t k) := by
  have hl := (h (6 + 512 * t + k) (by omega)).2
  unfold fX12_isFactAt zfacts
  rw [show (6 : Int32) = nI 6 from rfl, show (512 : Int32) = nI 512 from rfl, zi_mul, zi_add, zi_add, if_pos (by rw [zi_inB (by omega)]; omega), zi_clamp (by omega), (h _ (show 6 + 512 * t + k < 2780 by omega)).1, show (1 : Int32) = nI 1 from rfl]
  by_cases q : s (6 + 512 * t + k) = 1
  · rw [if_pos (by rw [q]), decide_eq_true q]
  · rw [if_neg (by rw [zi_eq (by omega) (by omega)]; exact q), decide_eq_false q]
theorem zX12_reasonsOf (K : Nat) (hK : 5000 < K) {now : Nat → Int32} {s : Nat → Nat} (h : zM now s) (hs : zRul s) {row : Nat → Int32} {R : Nat → Nat → Bool} (hR : zMr row R) {value : Nat → Int32} (hval : ∃ val, zMv value val) {t k : Nat} (ht : t < 5) (hk : k < 512) :
    ∃ value', fX12_reasonsOf K now row (nI t) (nI k) value = some (nI (zre R s t k), value') ∧ ∃ val, zMv value' val := by
  have hrn := hs.1
  have h2654 := h 2654 (by omega)
  have c2654 : (2654 : Int32).toNatClampNeg = 2654 := by decide
  have i2654 : inB (2654 : Int32) 2780 = true := by decide
  have s2654 : s 2654 = zrn s := rfl
  have e1 : (1 : Int32) = nI 1 := rfl
  unfold fX12_reasonsOf
  rw [show (512 : Int32) = nI 512 from rfl, zi_mul, zi_add, if_pos (by rw [zi_inB (by omega)]; omega), zi_clamp (by omega), hR t k ht hk]
  unfold zre
  cases hk0 : R t k
  · rw [if_pos (show bI false = 0 from rfl), if_neg (by decide)]
    exact ⟨value, rfl, hval⟩
  · rw [if_neg (show ¬ bI true = 0 by decide), if_pos rfl, zX12_isFactAt h ht hk, Option.bind_some]
    have main : ∀ f, ∃ value', fX12_reasonsOf_31 K now row (nI t) (nI k) (nI f) value = some (nI (f + zttl R s t k (zrn s)), value') ∧ ∃ val, zMv value' val := by
      intro f
      obtain ⟨x, ⟨v', q1, q2⟩, e⟩ := z_for (F := fun j r (z : Nat → Int32) => fX12_reasonsOf_35 K now row (nI t) (nI k) j (nI (f + zttl R s t k r)) (nI r) z) (n := zrn s)
        (inv := fun r z => ∃ val, zMv z val) (post := fun x => ∃ v', x = (nI (f + zttl R s t k (zrn s)), v') ∧ ∃ val, zMv v' val)
        (by
          intro j r z hr hv
          left
          have hh := zhp_lt (show r < 5 by omega)
          have a1 := (hs.2 r hr).1
          have hh5 : s (zhp r) < 5 := a1.1
          have hd : (zrh s r).1 = s (zhp r) := rfl
          have hu : zttl R s t k (r + 1) = zttl R s t k r + (if zidle s r = false ∧ t = s (zhp r) then zfirk R s r k else 0) := rfl
          by_cases g : s (zhp r) = t
          · obtain ⟨v', ef, hv'⟩ := (zX12_firingsOf K hK h hs hR hr hv).2 k hk
            refine ⟨v', hv', ?_⟩
            show fX12_reasonsOf_35 K now row (nI t) (nI k) (j + 1) (nI (f + zttl R s t k r)) (nI r) z = _
            rw [fX12_reasonsOf_35, if_pos i2654, c2654, h2654.1, if_neg (by rw [zi_le (by omega) (by omega)]; omega), zX12_headAt, Option.bind_some, if_pos (by rw [zi_inB (by omega)]; omega), zi_clamp (by omega), (h _ (show zhp r < 2780 by omega)).1, if_pos (by rw [g]), ef, Option.bind_some]
            unfold fX12_reasonsOf_73
            dsimp only
            rw [zi_add, e1, zi_add, hu]
            have : (if zidle s r = true then 0 else zfirk R s r k) = (if zidle s r = false ∧ t = s (zhp r) then zfirk R s r k else 0) := by
              cases zidle s r
              · rw [if_neg (by decide), if_pos ⟨rfl, g.symm⟩]
              · rw [if_pos rfl, if_neg (fun q => absurd q.1 (by decide))]
            rw [this, Nat.add_assoc]
          · refine ⟨z, hv, ?_⟩
            show fX12_reasonsOf_35 K now row (nI t) (nI k) (j + 1) (nI (f + zttl R s t k r)) (nI r) z = _
            rw [fX12_reasonsOf_35, if_pos i2654, c2654, h2654.1, if_neg (by rw [zi_le (by omega) (by omega)]; omega), zX12_headAt, Option.bind_some, if_pos (by rw [zi_inB (by omega)]; omega), zi_clamp (by omega), (h _ (show zhp r < 2780 by omega)).1, if_neg (by rw [zi_eq (by omega) (by omega)]; exact g)]
            unfold fX12_reasonsOf_73
            rw [e1, zi_add, hu, if_neg (fun q => g q.2.symm)]
            rfl)
        (by
          intro j z hv
          refine ⟨_, ⟨z, rfl, hv⟩, ?_⟩
          show fX12_reasonsOf_35 K now row (nI t) (nI k) (j + 1) (nI (f + zttl R s t k (zrn s))) (nI (zrn s)) z = _
          rw [fX12_reasonsOf_35, if_pos i2654, c2654, h2654.1, if_pos (by rw [zi_le (by omega) (by omega)]; omega)])
        (zrn s) K 0 value (by omega) hval (by omega)
      refine ⟨v', ?_, q2⟩
      unfold fX12_reasonsOf_31
      rw [q1] at e
      exact e
    cases zfacts s t k
    · rw [if_pos (show bI false = 0 from rfl)]; exact main 0
    · rw [if_neg (show ¬ bI true = 0 by decide)]; exact main 1
