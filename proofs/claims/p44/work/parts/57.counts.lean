/-! counts of rows and facts, and what is made of them -/
def zf1 (s : Nat → Nat) : Prop := ∀ i, i < 2560 → s (6 + i) ≤ 1
/-- rows without a reason in a table -/
def zwo (R : Nat → Nat → Bool) (s : Nat → Nat) (t : Nat) : Nat → Nat := zcnt (fun k => R t k && decide (zre R s t k = 0))
theorem zX12_errors (K : Nat) (hK : 5000 < K) {now : Nat → Int32} {s : Nat → Nat} (h : zM now s) (hs : zRul s) (h5 : s 0 ≤ 5) {row : Nat → Int32} {R : Nat → Nat → Bool} (hR : zMr row R) (th : Int32) {value : Nat → Int32} (hval : ∃ val, zMv value val) :
    ∃ value', fX12_errors K now row th value = some (nI (zsum (fun t => zwo R s t 512) (s 0)), 0, value') ∧ ∃ val, zMv value' val := by
  have h0 := h 0 (by omega)
  have c0 : (0 : Int32).toNatClampNeg = 0 := by decide
  have i0 : inB (0 : Int32) 2780 = true := by decide
  have e1 : (1 : Int32) = nI 1 := rfl
  have inner : ∀ (r9 : Int32 → Int32 → Int32 → (Nat → Int32) → Option (Int32 × Int32 × (Nat → Int32))) {t : Nat}, t < 5 → ∀ (a : Nat) (v : Nat → Int32), (∃ val, zMv v val) → ∃ v', (∃ val, zMv v' val) ∧ fX12_errors_21 K now row r9 K (nI a) (nI t) 0 0 v = r9 (nI (a + zwo R s t 512)) (nI (t + 1)) 0 v' := by
    intro r9 t ht a v hv
    obtain ⟨v', h1, e⟩ := z_forD (F := fun k i (z : Nat → Int32) => fX12_errors_21 K now row r9 k (nI (a + zwo R s t i)) (nI t) (nI i) 0 z) (n := 512) (inv := fun _ z => ∃ val, zMv z val) (D := fun z => r9 (nI (a + zwo R s t 512)) (nI (t + 1)) 0 z)
      (by
        intro k i z hi hz
        have st : ∀ z : Nat → Int32, fX12_errors_21 K now row r9 (k + 1) (nI (a + zwo R s t i)) (nI t) (nI i) 0 z = _ := fun z => by
          rw [fX12_errors_21, if_neg (by rw [show (512 : Int32) = nI 512 from rfl, zi_le (by omega) (by omega)]; omega), show (512 : Int32) = nI 512 from rfl, zi_mul, zi_add, if_pos (by rw [zi_inB (by omega)]; omega), zi_clamp (by omega), hR t i ht hi]
        have su : a + zwo R s t (i + 1) = a + zwo R s t i + (R t i && decide (zre R s t i = 0)).toNat := (Nat.add_assoc _ _ _).symm
        cases hr : R t i
        · refine ⟨z, hz, ?_⟩
          show fX12_errors_21 K now row r9 (k + 1) (nI (a + zwo R s t i)) (nI t) (nI i) 0 z = _
          rw [st, hr, if_pos (show bI false = 0 from rfl), su, hr]
          unfold fX12_errors_57 fX12_errors_58
          rw [show (0 : Int32) = nI 0 from rfl, zi_add, e1, zi_add]; rfl
        · obtain ⟨v', ef, hv'⟩ := zX12_reasonsOf K hK h hs hR hz ht hi
          refine ⟨v', hv', ?_⟩
          show fX12_errors_21 K now row r9 (k + 1) (nI (a + zwo R s t i)) (nI t) (nI i) 0 z = _
          have hl := zre_le hs R t i
          rw [st, hr, if_neg (show ¬ bI true = 0 by decide), ef, Option.bind_some, su, hr]
          unfold fX12_errors_57 fX12_errors_58
          dsimp only
          rw [show (0 : Int32) = nI 0 from rfl, zi_add, e1, zi_add, zi_add]
          by_cases g : zre R s t i = 0
          · rw [if_pos (by rw [g]), decide_eq_true g]; rfl
          · rw [if_neg (by rw [zi_eq (by omega) (by omega)]; exact g), decide_eq_false g]; rfl)
      (by
        intro k z hz
        show fX12_errors_21 K now row r9 (k + 1) (nI (a + zwo R s t 512)) (nI t) (nI 512) 0 z = _
        rw [fX12_errors_21, if_pos (show (512 : Int32) ≤ nI 512 by decide), e1, zi_add])
      512 K 0 v (by omega) hv (by omega)
    exact ⟨v', h1, e⟩
  obtain ⟨x, ⟨v', q1, q2⟩, e⟩ := z_for (F := fun k t (z : Nat → Int32) => fX12_errors_9 K now row k (nI (zsum (fun t => zwo R s t 512) t)) (nI t) 0 z) (n := s 0) (inv := fun _ z => ∃ val, zMv z val)
    (post := fun x => ∃ v', x = (nI (zsum (fun t => zwo R s t 512) (s 0)), 0, v') ∧ ∃ val, zMv v' val)
    (by
      intro k t z ht hz
      left
      obtain ⟨v', hv', ei⟩ := inner (fX12_errors_9 K now row k) (show t < 5 by omega) (zsum (fun t => zwo R s t 512) t) z hz
      refine ⟨v', hv', ?_⟩
      show fX12_errors_9 K now row (k + 1) (nI (zsum (fun t => zwo R s t 512) t)) (nI t) 0 z = _
      rw [fX12_errors_9, if_pos i0, c0, h0.1, if_neg (by rw [zi_le (by omega) (by omega)]; omega), ei]; rfl)
    (by
      intro k z hz
      refine ⟨_, ⟨z, rfl, hz⟩, ?_⟩
      show fX12_errors_9 K now row (k + 1) (nI (zsum (fun t => zwo R s t 512) (s 0))) (nI (s 0)) 0 z = _
      rw [fX12_errors_9, if_pos i0, c0, h0.1, if_pos (by rw [zi_le (by omega) (by omega)]; omega)])
    (s 0) K 0 value (by omega) hval (by omega)
  refine ⟨v', ?_, q2⟩
  rw [q1] at e
  unfold fX12_errors
  exact e
