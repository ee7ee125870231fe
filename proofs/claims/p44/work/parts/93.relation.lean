/-! the whole relation of class and reference, and what keeps it -/
abbrev zH12 := (Nat → Nat → Int32) × (Nat → Nat → Int64) × (Nat → Nat → Int32) × (Nat → Nat → Int32) × (Nat → Nat → Nat → Int32) × (Nat → Nat → Int32) × (Nat → Nat → Nat → Int32) × (Nat → Nat → Int32) × (Nat → Int32) × (Nat → Int32) × Int32 × Int32
def zaph {β : Type} (f : (Nat → Nat → Int32) → (Nat → Nat → Int64) → (Nat → Nat → Int32) → (Nat → Nat → Int32) → (Nat → Nat → Nat → Int32) → (Nat → Nat → Int32) → (Nat → Nat → Nat → Int32) → (Nat → Nat → Int32) → (Nat → Int32) → (Nat → Int32) → Int32 → Int32 → β) (H : zH12) : β := f H.1 H.2.1 H.2.2.1 H.2.2.2.1 H.2.2.2.2.1 H.2.2.2.2.2.1 H.2.2.2.2.2.2.1 H.2.2.2.2.2.2.2.1 H.2.2.2.2.2.2.2.2.1 H.2.2.2.2.2.2.2.2.2.1 H.2.2.2.2.2.2.2.2.2.2.1 H.2.2.2.2.2.2.2.2.2.2.2
def zgh {τ : Type} (H : zH12) (t : τ) : (Nat → Nat → Int32) × (Nat → Nat → Int64) × (Nat → Nat → Int32) × (Nat → Nat → Int32) × (Nat → Nat → Nat → Int32) × (Nat → Nat → Int32) × (Nat → Nat → Nat → Int32) × (Nat → Nat → Int32) × (Nat → Int32) × (Nat → Int32) × Int32 × Int32 × τ := (H.1, H.2.1, H.2.2.1, H.2.2.2.1, H.2.2.2.2.1, H.2.2.2.2.2.1, H.2.2.2.2.2.2.1, H.2.2.2.2.2.2.2.1, H.2.2.2.2.2.2.2.2.1, H.2.2.2.2.2.2.2.2.2.1, H.2.2.2.2.2.2.2.2.2.2.1, H.2.2.2.2.2.2.2.2.2.2.2, t)
def zHi (H : zH12) (before : Nat → Int32) (ch : Int32) : Prop := zHist H.1 H.2.1 H.2.2.1 H.2.2.2.1 H.2.2.2.2.1 H.2.2.2.2.2.1 H.2.2.2.2.2.2.1 H.2.2.2.2.2.2.2.1 H.2.2.2.2.2.2.2.2.1 H.2.2.2.2.2.2.2.2.2.1 H.2.2.2.2.2.2.2.2.2.2.1 H.2.2.2.2.2.2.2.2.2.2.2 before ch
theorem zFol (K : Nat) (hK : 1000000 < K) {now : Nat → Int32} {s : Nat → Nat} (hm : zM now s) (hW : zWF s) (row comes layer : Nat → Int32) (ro : Int32) {value : Nat → Int32} (hval : ∃ val, zMv value val) :
    ∃ M row' comes' layer' rounds' value', zLst (zE s) M ∧ (∀ t, t < 5 → M t ≤ 4) ∧ fX12_follows K now row comes layer ro value = some (row', comes', layer', rounds', value') ∧ zMr row' (zly s M 5).1 ∧ (∀ t, t < 5 → layer' t = nI (M t)) ∧ rounds' = nI (zly s M 5).2 ∧ ∃ val, zMv value' val := by
  obtain ⟨M, hM, hM4⟩ := zWF_M hW
  obtain ⟨row', comes', g', value', e, h1, h2, h3⟩ := zX12_follows K hK hm hW.2.2.2.2.2.2.1 hM hM4 row comes layer ro hval
  exact ⟨M, row', comes', g', _, value', hM, hM4, e, h1, h2, rfl, h3⟩
def zIv (wd : Nat → Int32) (fa : Nat → Int64) (od hd : Nat → Int32) (qc : Nat → Nat → Int32) (qs : Nat → Int32) (bc : Nat → Nat → Int32) (bs : Nat → Int32) (tt rt : Int32) (H : zH12) (w : Nat → Int64) (g re fi : Nat → Int32) (ro im : Int32) (r : zR15) (ff : Int32) (now before : Nat → Int32) (ch : Int32) (row layer : Nat → Int32) (rounds : Int32) (value : Nat → Int32) : Prop :=
  ∃ (s M : Nat → Nat), zWF s ∧ zLst (zE s) M ∧ (∀ t, t < 5 → M t ≤ 4) ∧ zSR wd fa od hd qc qs bc bs tt rt s ∧ zHi H before ch ∧ (im = 0 ∨ im = 1 ∧ zGn s M w g re fi ro) ∧ zFo s w im r ff ∧ zM now s ∧ zMr row (zly s M 5).1 ∧ (∀ t, t < 5 → layer t = nI (M t)) ∧ rounds = nI (zly s M 5).2 ∧ ∃ val, zMv value val
/-- rows and rules as they were -/
theorem zX1_codeA : ∀ t : Fin 5, ∀ w : Fin 3, ∀ x y z : Fin 4, fX1_code (nI t.val) (nI (w.val + 1)) (nI x.val) (nI y.val) (nI z.val) = some (nI (zaC (t.val, w.val + 1, x.val, y.val, z.val) false)) := by decide +kernel
theorem zX1_code {t w x y z : Nat} (ht : t < 5) (h1 : 1 ≤ w) (h3 : w ≤ 3) (hx : x < 4) (hy : y < 4) (hz : z < 4) : fX1_code (nI t) (nI w) (nI x) (nI y) (nI z) = some (nI (zaC (t, w, x, y, z) false)) := by
  obtain ⟨v, rfl⟩ : ∃ v, w = v + 1 := ⟨w - 1, by omega⟩
  exact zX1_codeA ⟨t, ht⟩ ⟨v, by omega⟩ ⟨x, hx⟩ ⟨y, hy⟩ ⟨z, hz⟩
theorem zX12_laysHead {now : Nat → Int32} {s : Nat → Nat} (h : zM now s) {p t x y z : Nat} (hp : p + 3 < 2780) (ht : t < 10000) (hx : x < 10000) (hy : y < 10000) (hz : z < 10000) : ∃ now', fX12_laysHead (nI p) (nI t) (nI x) (nI y) (nI z) now = some now' ∧ zM now' (zlay s p t x y z) := by
  unfold fX12_laysHead
  have i0 : inB (nI p) 2780 = true := by rw [zi_inB (by omega)]; omega
  have e1 : nI p + (1 : Int32) = nI (p + 1) := (nI_succ p).symm
  have e2 : nI (p + 1) + (1 : Int32) = nI (p + 2) := (nI_succ (p + 1)).symm
  have e3 : nI (p + 1) + (2 : Int32) = nI (p + 3) := by rw [show (2 : Int32) = nI 2 from rfl, zi_add]
  have i1 : inB (nI (p + 1)) 2780 = true := by rw [zi_inB (by omega)]; omega
  have i2 : inB (nI (p + 2)) 2780 = true := by rw [zi_inB (by omega)]; omega
  have i3 : inB (nI (p + 3)) 2780 = true := by rw [zi_inB (by omega)]; omega
  rw [if_pos i0, e1, if_pos i1, e2, if_pos i2, e3, if_pos i3, zi_clamp (by omega), zi_clamp (by omega), zi_clamp (by omega), zi_clamp (by omega)]
  exact ⟨_, rfl, zM_up (zM_up (zM_up (zM_up h ht) hx) hy) hz⟩
