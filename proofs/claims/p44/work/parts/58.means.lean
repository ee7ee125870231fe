/-! the means -/
/-! the same in the class -/
theorem zX11_rowsWithoutReason (K : Nat) (hK : 512 < K) {s : Nat → Nat} (hs : zRul s) {M : Nat → Nat} (hM : zLst (zE s) M) (hM4 : ∀ t, t < 5 → M t ≤ 4) {re : Nat → Int32} (hre : ∀ t k, t < 5 → k < 512 → re (512 * t + k) = nI (zttl (zly s M 5).1 s t k (zrn s))) {fa w : Nat → Int64} (hfa : zeqR (zw fa) (zfacts s)) (hw : zeqR (zw w) (zly s M 5).1) {t : Nat} (ht : t < 5) :
    fX11_rowsWithoutReason K fa w re (nI t) = some (nI (zwo (zly s M 5).1 s t 512)) := by
  have e1 : (1 : Int32) = nI 1 := rfl
  unfold fX11_rowsWithoutReason
  refine z_forE (F := fun k i (_ : Unit) => fX11_rowsWithoutReason_4 K fa w re (nI t) k (nI (zwo (zly s M 5).1 s t i)) (nI i)) (n := 512) (inv := fun _ _ => True) ?_ ?_ 512 K 0 () (by omega) trivial (by omega)
  · intro k i _ hi _
    left
    refine ⟨(), trivial, ?_⟩
    have hl := zre_le hs (zly s M 5).1 t i
    show fX11_rowsWithoutReason_4 K fa w re (nI t) (k + 1) (nI (zwo (zly s M 5).1 s t i)) (nI i) = fX11_rowsWithoutReason_4 K fa w re (nI t) k (nI (zwo (zly s M 5).1 s t i + ((zly s M 5).1 t i && decide (zre (zly s M 5).1 s t i = 0)).toNat)) (nI (i + 1))
    rw [fX11_rowsWithoutReason_4, if_neg (by rw [show (512 : Int32) = nI 512 from rfl, zi_le (by omega) (by omega)]; omega), zX7_has w ht hi, Option.bind_some, hw t i ht hi]
    unfold fX11_rowsWithoutReason_45
    rw [e1, zi_add, zi_add]
    cases hr : (zly s M 5).1 t i
    · rw [if_pos (show bI false = 0 from rfl)]; rfl
    · rw [if_neg (show ¬ bI true = 0 by decide), zX4_reasonsOf hs hM hM4 hre hfa ht hi, Option.bind_some]
      by_cases g : zre (zly s M 5).1 s t i = 0
      · rw [if_pos (by rw [g]; rfl), decide_eq_true g]; rfl
      · rw [if_neg (by rw [show (0 : Int32) = nI 0 from rfl, zi_eq (by omega) (by omega)]; exact g), decide_eq_false g]; rfl
  · intro k _ _
    show fX11_rowsWithoutReason_4 K fa w re (nI t) (k + 1) (nI (zwo (zly s M 5).1 s t 512)) (nI 512) = _
    rw [fX11_rowsWithoutReason_4, if_pos (show (512 : Int32) ≤ nI 512 by decide)]
