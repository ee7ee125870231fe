/-! the calls that change nothing, on both sides -/
theorem zrow_of {x y z : Nat} (hx : x < 8) (hy : y < 8) (hz : z < 8) : fX11_rowOf (nI x) (nI y) (nI z) = some (nI (64 * x + 8 * y + z)) := by
  have h : ∀ x : Fin 8, ∀ y : Fin 8, ∀ z : Fin 8, ((nI x.val <<< ((6 : Int32) &&& 31)) ||| (nI y.val <<< ((3 : Int32) &&& 31))) ||| nI z.val = nI (64 * x.val + 8 * y.val + z.val) := by decide +kernel
  unfold fX11_rowOf
  rw [h ⟨x, hx⟩ ⟨y, hy⟩ ⟨z, hz⟩]
theorem zX12_code (x y z : Nat) : fX12_code (nI x) (nI y) (nI z) = some (nI (64 * x + 8 * y + z)) := by
  unfold fX12_code
  rw [show (64 : Int32) = nI 64 from rfl, show (8 : Int32) = nI 8 from rfl, zi_mul, zi_mul, zi_add, zi_add]
theorem zin_row {w x y z : Nat} (hx : x < 8) (hy : if 1 < w then y < 8 else y = 0) (hz : if 2 < w then z < 8 else z = 0) : y < 8 ∧ z < 8 ∧ 64 * x + 8 * y + z < 512 ∧ zin w (64 * x + 8 * y + z) := by
  have h1 : y < 8 := by split at hy <;> omega
  have h2 : z < 8 := by split at hz <;> omega
  refine ⟨h1, h2, by omega, ?_, ?_⟩
  · intro g
    rw [if_neg (by omega)] at hy hz
    subst hy; subst hz
    unfold zcol; simp only [Nat.reduceSub, Nat.reducePow]; omega
  · intro g
    rw [if_neg (by omega)] at hz
    subst hz
    unfold zcol; simp only [Nat.reduceSub, Nat.reducePow]; omega
/-! the class grown or not -/
def zGn (s : Nat → Nat) (M : Nat → Nat) (w : Nat → Int64) (g re fi : Nat → Int32) (rt : Int32) : Prop :=
  zeqR (zw w) (zly s M 5).1 ∧ (∀ t, t < 5 → g t = nI (M t)) ∧ (∀ t k, t < 5 → k < 512 → re (512 * t + k) = nI (zttl (zly s M 5).1 s t k (zrn s))) ∧ (∀ u, u < zrn s → fi u = nI (if zidle s u = true then 0 else zfir (zly s M 5).1 s u)) ∧ rt = nI (zly s M 5).2
theorem zRefresh (K : Nat) (hK : 1000000 < K) {s : Nat → Nat} (hW : zWF s) {M : Nat → Nat} (hM : zLst (zE s) M) (hM4 : ∀ t, t < 5 → M t ≤ 4) {fa : Nat → Int64} {hd : Nat → Int32} {bc : Nat → Nat → Int32} {bs : Nat → Int32} {rtt : Int32} (hfa : zeqR (zw fa) (zfacts s)) (hR : zRc hd bc bs rtt s) (q : zR13) (w fr : Nat → Int64) (g re fi : Nat → Int32) (rt im : Int32) (h : im = 0 ∨ im = 1 ∧ zGn s M w g re fi rt) :
    ∃ q' w' fr' g' re' fi' rt', zap (fX4_refresh K fa hd bc bs rtt) q w fr g re fi rt im = some (zrs q' w' fr' g' re' fi' rt' 1) ∧ zGn s M w' g' re' fi' rt' ∧ (im = 1 → w' = w) := by
  rcases h with rfl | ⟨rfl, h⟩
  · obtain ⟨q', w', fr', g', re', fi', e, h1, h2, h3, h4⟩ := zX4_refresh K hK fa hW.2.2.2.2.2.2.1 hR hfa (fun t ht k hk g => zWF_Rz hW t ht k hk (by rw [← hfa t k ht hk]; exact g)) hM hM4 q w fr g re fi rt
    exact ⟨q', w', fr', g', re', fi', _, e, ⟨h1, h2, h3, h4, rfl⟩, fun g => absurd g (by decide)⟩
  · refine ⟨q, w, fr, g, re, fi, rt, ?_, h, fun _ => rfl⟩
    unfold zap
    unfold fX4_refresh
    rw [if_neg (by decide)]
    rfl
