/-! changes of tables, orders and queries -/
theorem zWF_mk {s s' : Nat → Nat} (hW : zWF s) (hT : zsmT s s') (h5 : s' 0 ≤ 5) (hw : ∀ t, t < s' 0 → 1 ≤ s' (1 + t) ∧ s' (1 + t) ≤ 3) (hf : ∀ i, i < 2560 → s' (6 + i) = s (6 + i)) (hQ : ∀ q, q < 4 → zQ s' q ∧ zOr (zqo s' q) ∧ ∀ i, i < zqn s' q → (zqa s' q i).1 < s' 0) (hR : zRul s') (hr : ∀ r, r < zrn s' → (zrh s' r).1 < s' 0 ∧ ∀ i, i < zbn s' r → (zba s' r i).1 < s' 0) (hS : ∃ S, zStb (zE s') S) : zWF s' ∧ ∀ t k, t < 5 → k < 512 → zfacts s' t k = zfacts s t k := by
  have e : ∀ t k, t < 5 → k < 512 → zfacts s' t k = zfacts s t k := by
    intro t k ht hk
    unfold zfacts
    have := hf (512 * t + k) (by omega)
    rw [show 6 + (512 * t + k) = 6 + 512 * t + k by omega] at this
    rw [this]
  refine ⟨⟨h5, hw, fun i hi => by rw [hf i hi]; exact hW.2.2.1 i hi, ?_, ?_, hQ, hR, hr, hS⟩, e⟩
  · intro t k ht hk g
    rw [e t k ht hk] at g
    obtain ⟨a1, a2⟩ := hW.2.2.2.1 t k ht hk g
    have := hT.1
    rw [hT.2 t a1]
    exact ⟨by omega, a2⟩
  · intro t ht
    rw [zcnt_cong (fun k hk => e t k ht hk)]
    exact hW.2.2.2.2.1 t ht
/-- a table more -/
theorem zWF_table {wd : Nat → Int32} {fa : Nat → Int64} {od hd : Nat → Int32} {qc : Nat → Nat → Int32} {qs : Nat → Int32} {bc : Nat → Nat → Int32} {bs : Nat → Int32} {tt rt : Int32} {s : Nat → Nat} (hW : zWF s) (hS : zSR wd fa od hd qc qs bc bs tt rt s) {c : Nat} (h5 : s 0 < 5) (hc1 : 1 ≤ c) (hc3 : c ≤ 3) :
    zWF (zup (zup s (1 + s 0) c) 0 (s 0 + 1)) ∧ zSR (upd wd (s 0) (nI c)) fa od hd qc qs bc bs (nI (s 0 + 1)) rt (zup (zup s (1 + s 0) c) 0 (s 0 + 1)) := by
  have h0 : (zup (zup s (1 + s 0) c) 0 (s 0 + 1)) 0 = s 0 + 1 := zup_at _ _ _
  have hne : ∀ i, i ≠ 0 → i ≠ 1 + s 0 → (zup (zup s (1 + s 0) c) 0 (s 0 + 1)) i = s i := fun i a b => by rw [zup_ne _ _ a, zup_ne _ _ b]
  have hn : (zup (zup s (1 + s 0) c) 0 (s 0 + 1)) (1 + s 0) = c := by rw [zup_ne _ _ (by omega), zup_at]
  generalize zup (zup s (1 + s 0) c) 0 (s 0 + 1) = s' at h0 hne hn ⊢
  have hT : zsmT s s' := ⟨by omega, fun t ht => hne _ (by omega) (by omega)⟩
  have hR := zsmR_of hW hT (fun i h1 h2 => hne i (by omega) (by omega))
  have hQ : ∀ q, q < 4 → zsmQ s s' q := fun q hq => zsmQ_of hW hT hq (fun i h1 h2 => hne i (by omega) (by omega)) (hne _ (by omega) (by omega))
  obtain ⟨w, e⟩ := zWF_mk hW hT (by omega) (fun t ht => by
    rw [h0] at ht
    rcases Nat.lt_or_ge t (s 0) with g | g
    · rw [hT.2 t g]; exact hW.2.1 t g
    · rw [show t = s 0 by omega, hn]; exact ⟨hc1, hc3⟩) (fun i hi => hne _ (by omega) (by omega)) (fun q hq => zWq_same hT.1 (hQ q hq) (hW.2.2.2.2.2.1 q hq)) (zRul_same hR hW.2.2.2.2.2.2.1) (zWr_same hT.1 hR hW.2.2.2.2.2.2.2.1) (zS_same hR hW.2.2.2.2.2.2.2.2)
  refine ⟨w, ?_⟩
  obtain ⟨a1, a2, a3, a4, a5, a6⟩ := hS
  refine ⟨by rw [h0], fun t ht => ?_, fun t k ht hk => by rw [a3 t k ht hk, e t k ht hk], fun q hq => by rw [(hQ q hq).2.1]; exact a4 q hq, fun q hq => zqs_same (hQ q hq) (a5 q hq), zRc_same hR a6⟩
  rw [h0] at ht
  rw [zu_at]
  by_cases g : t = s 0
  · rw [if_pos g, g, hn]
  · rw [if_neg g, hT.2 t (by omega)]; exact a2 t (by omega)
/-- a change within a query -/
theorem zWF_query {wd : Nat → Int32} {fa : Nat → Int64} {od hd : Nat → Int32} {qc : Nat → Nat → Int32} {qs : Nat → Int32} {bc : Nat → Nat → Int32} {bs : Nat → Int32} {tt rt : Int32} {s s' : Nat → Nat} (hW : zWF s) (hS : zSR wd fa od hd qc qs bc bs tt rt s) {q : Nat} (hq : q < 4)
    (h : ∀ i, i < 2780 → (i < 2566 ∨ 2654 ≤ i ∨ (i < 2570 ∧ i ≠ 2566 + q) ∨ (2570 ≤ i ∧ (i < 2570 + 21 * q ∨ 2570 + 21 * q + 21 ≤ i))) → s' i = s i) (hQq : zQ s' q ∧ zOr (zqo s' q) ∧ ∀ i, i < zqn s' q → (zqa s' q i).1 < s 0)
    {od' : Nat → Int32} {qc' : Nat → Nat → Int32} {qs' : Nat → Int32} (ho : od' q = nI (zqo s' q)) (hos : ∀ u, u < 4 → u ≠ q → od' u = od u) (hq1 : qs' q = nI (zqn s' q) ∧ zL (qc' q) (zqn s' q) (zqa s' q) (fun _ => false)) (hqs : ∀ u, u < 4 → u ≠ q → qs' u = qs u ∧ qc' u = qc u) :
    zWF s' ∧ zSR wd fa od' hd qc' qs' bc bs tt rt s' ∧ zsmR s s' ∧ (∀ t k, t < 5 → k < 512 → zfacts s' t k = zfacts s t k) ∧ ∀ u, u < 4 → u ≠ q → zsmQ s s' u := by
  have h0 : s' 0 = s 0 := h 0 (by omega) (by omega)
  have h5 := hW.1
  have hT : zsmT s s' := ⟨by omega, fun t ht => h _ (by omega) (by omega)⟩
  have hR := zsmR_of hW hT (fun i h1 h2 => h i h2 (by omega))
  have hQ : ∀ u, u < 4 → u ≠ q → zsmQ s s' u := fun u hu hne => zsmQ_of hW hT hu (fun i h1 h2 => h i (by omega) (by omega)) (h _ (by omega) (by omega))
  obtain ⟨w, e⟩ := zWF_mk hW hT (by omega) (fun t ht => by
    rw [h0] at ht
    rw [hT.2 t ht]; exact hW.2.1 t ht) (fun i hi => h _ (by omega) (by omega)) (fun u hu => by
      by_cases g : u = q
      · rw [g, h0]; exact hQq
      · exact zWq_same hT.1 (hQ u hu g) (hW.2.2.2.2.2.1 u hu)) (zRul_same hR hW.2.2.2.2.2.2.1) (zWr_same hT.1 hR hW.2.2.2.2.2.2.2.1) (zS_same hR hW.2.2.2.2.2.2.2.2)
  refine ⟨w, ?_, hR, e, hQ⟩
  obtain ⟨a1, a2, a3, a4, a5, a6⟩ := hS
  refine ⟨by rw [h0]; exact a1, fun t ht => ?_, fun t k ht hk => by rw [a3 t k ht hk, e t k ht hk], fun u hu => ?_, fun u hu => ?_, zRc_same hR a6⟩
  · rw [h0] at ht
    rw [hT.2 t ht]; exact a2 t ht
  · by_cases g : u = q
    · rw [g]; exact ho
    · rw [hos u hu g, (hQ u hu g).2.1]; exact a4 u hu
  · by_cases g : u = q
    · rw [g]; exact hq1
    · obtain ⟨b1, b2⟩ := hqs u hu g
      rw [b1, b2]
      exact zqs_same (hQ u hu g) (a5 u hu)
theorem zWF_order {wd : Nat → Int32} {fa : Nat → Int64} {od hd : Nat → Int32} {qc : Nat → Nat → Int32} {qs : Nat → Int32} {bc : Nat → Nat → Int32} {bs : Nat → Int32} {tt rt : Int32} {s : Nat → Nat} (hW : zWF s) (hS : zSR wd fa od hd qc qs bc bs tt rt s) {q o : Nat} (hq : q < 4) (ho : zOr o) :
    zWF (zup s (2566 + q) o) ∧ zSR wd fa (upd od q (nI o)) hd qc qs bc bs tt rt (zup s (2566 + q) o) ∧ zsmR s (zup s (2566 + q) o) ∧ ∀ t k, t < 5 → k < 512 → zfacts (zup s (2566 + q) o) t k = zfacts s t k := by
  have hne : ∀ i, i ≠ 2566 + q → zup s (2566 + q) o i = s i := fun i g => zup_ne _ _ g
  have ho' : zqo (zup s (2566 + q) o) q = o := zup_at _ _ _
  have h5 := hW.1
  obtain ⟨w1, w2, w3⟩ := hW.2.2.2.2.2.1 q hq
  have hn : zqn (zup s (2566 + q) o) q = zqn s q := hne _ (by omega)
  have ha : ∀ i, i < zqn s q → zqa (zup s (2566 + q) o) q i = zqa s q i := by
    intro i hi
    have hp : zqp q i = 2570 + 21 * q + 1 + 4 * i := rfl
    have hn5 := w1.1
    exact zat_same (s := s) ⟨by rw [hne _ (by omega)]; exact Nat.le_refl _, fun t ht => hne _ (by omega)⟩ (w3 i hi) (fun j hj => hne _ (by omega))
  obtain ⟨r1, r2, r3, r4, _⟩ := zWF_query (s' := zup s (2566 + q) o) (od' := upd od q (nI o)) (qc' := qc) (qs' := qs) hW hS hq (fun i h1 h2 => hne i (by omega)) ⟨⟨by rw [hn]; exact w1.1, fun i hi => by rw [hn] at hi; rw [ha i hi]; exact w1.2 i hi⟩, by rw [ho']; exact ho, fun i hi => by rw [hn] at hi; rw [ha i hi]; exact w3 i hi⟩
    (by rw [zu_at, if_pos rfl, ho']) (fun u hu g => by rw [zu_at, if_neg g]) (by
      rw [hn]
      exact ⟨(hS.2.2.2.2.1 q hq).1, zL_same (hS.2.2.2.2.1 q hq).2 (fun i hi => ⟨ha i hi, rfl⟩)⟩) (fun u hu g => ⟨rfl, rfl⟩)
  exact ⟨r1, r2, r3, r4⟩
def zlay (s : Nat → Nat) (p t x y z : Nat) : Nat → Nat := zup (zup (zup (zup s p t) (p + 1) x) (p + 2) y) (p + 3) z
theorem zlay_ne (s : Nat → Nat) {p t x y z i : Nat} (h : i < p ∨ p + 4 ≤ i) : zlay s p t x y z i = s i := by
  unfold zlay
  rw [zup_ne _ _ (by omega), zup_ne _ _ (by omega), zup_ne _ _ (by omega), zup_ne _ _ (by omega)]
theorem zlay_at (s : Nat → Nat) (p t x y z : Nat) : zlay s p t x y z p = t ∧ zlay s p t x y z (p + 1) = x ∧ zlay s p t x y z (p + 2) = y ∧ zlay s p t x y z (p + 3) = z := by
  unfold zlay
  refine ⟨?_, ?_, ?_, zup_at _ _ _⟩
  · rw [zup_ne _ _ (by omega), zup_ne _ _ (by omega), zup_ne _ _ (by omega), zup_at]
  · rw [zup_ne _ _ (by omega), zup_ne _ _ (by omega), zup_at]
  · rw [zup_ne _ _ (by omega), zup_at]
theorem zWF_atom {wd : Nat → Int32} {fa : Nat → Int64} {od hd : Nat → Int32} {qc : Nat → Nat → Int32} {qs : Nat → Int32} {bc : Nat → Nat → Int32} {bs : Nat → Int32} {tt rt : Int32} {s s' : Nat → Nat} (hW : zWF s) (hS : zSR wd fa od hd qc qs bc bs tt rt s) {q t x y z : Nat} (hq : q < 4) (hn : zqn s q < 5) (ht : t < s 0) (hx : x < 4) (hy : y < 4) (hz : z < 4)
    (hs' : s' = zup (zlay s (zqp q (zqn s q)) t x y z) (2570 + 21 * q) (zqn s q + 1)) :
    zWF s' ∧ zSR wd fa od hd (zup qc q (upd (qc q) (zqn s q) (nI (zaC (t, s (1 + t), x, y, z) false)))) (zup qs q (nI (zqn s q + 1))) bc bs tt rt s' ∧ zsmR s s' ∧ ∀ t k, t < 5 → k < 512 → zfacts s' t k = zfacts s t k := by
  have h5 := hW.1
  obtain ⟨c1, c3⟩ := hW.2.1 t ht
  obtain ⟨w1, w2, w3⟩ := hW.2.2.2.2.2.1 q hq
  have hp : zqp q (zqn s q) = 2570 + 21 * q + 1 + 4 * zqn s q := rfl
  have hcnt : s' (2570 + 21 * q) = zqn s q + 1 := by rw [hs', zup_at]
  have hne : ∀ i, i ≠ 2570 + 21 * q → (i < zqp q (zqn s q) ∨ zqp q (zqn s q) + 4 ≤ i) → s' i = s i := fun i g1 g2 => by rw [hs', zup_ne _ _ g1, zlay_ne s g2]
  have hla := zlay_at s (zqp q (zqn s q)) t x y z
  have hl : ∀ j, j < 4 → s' (zqp q (zqn s q) + j) = zlay s (zqp q (zqn s q)) t x y z (zqp q (zqn s q) + j) := fun j hj => by rw [hs', zup_ne _ _ (by omega)]
  have hT : zsmT s s' := ⟨by rw [hne 0 (by omega) (by omega)]; exact Nat.le_refl _, fun t ht => hne _ (by omega) (by omega)⟩
  have hnew : zqa s' q (zqn s q) = (t, s (1 + t), x, y, z) := by
    have e0 := hl 0 (by omega)
    have e1 := hl 1 (by omega)
    have e2 := hl 2 (by omega)
    have e3 := hl 3 (by omega)
    rw [Nat.add_zero, hla.1] at e0
    rw [hla.2.1] at e1
    rw [hla.2.2.1] at e2
    rw [hla.2.2.2] at e3
    unfold zqa zat
    rw [e0, e1, e2, e3, hT.2 t ht]
  have hok : zaOK (t, s (1 + t), x, y, z) := ⟨by show t < 5; omega, c1, c3, hx, hy, hz⟩
  have hold : ∀ i, i < zqn s q → zqa s' q i = zqa s q i := by
    intro i hi
    have hpi : zqp q i = 2570 + 21 * q + 1 + 4 * i := rfl
    exact zat_same hT (w3 i hi) (fun j hj => hne _ (by omega) (by omega))
  have hn' : zqn s' q = zqn s q + 1 := hcnt
  have ho : zqo s' q = zqo s q := hne _ (by omega) (by omega)
  have hall : ∀ i, i < zqn s q + 1 → (i < zqn s q ∧ zqa s' q i = zqa s q i) ∨ (i = zqn s q ∧ zqa s' q i = (t, s (1 + t), x, y, z)) := by
    intro i hi
    rcases Nat.lt_or_ge i (zqn s q) with g | g
    · exact Or.inl ⟨g, hold i g⟩
    · have : i = zqn s q := by omega
      exact Or.inr ⟨this, by rw [this]; exact hnew⟩
  obtain ⟨qe, ql⟩ := hS.2.2.2.2.1 q hq
  have hadd := (zX2_add ql hn hok (b := false)).2
  obtain ⟨r1, r2, r3, r4, _⟩ := zWF_query (s' := s') (od' := od) (qc' := zup qc q (upd (qc q) (zqn s q) (nI (zaC (t, s (1 + t), x, y, z) false)))) (qs' := zup qs q (nI (zqn s q + 1))) hW hS hq (fun i h1 h2 => hne i (by omega) (by omega)) ⟨⟨by rw [hn']; omega, fun i hi => by
      rw [hn'] at hi
      rcases hall i hi with ⟨g, e⟩ | ⟨g, e⟩
      · rw [e]; exact w1.2 i g
      · rw [e]; exact hok⟩, by rw [ho]; exact w2, fun i hi => by
      rw [hn'] at hi
      rcases hall i hi with ⟨g, e⟩ | ⟨g, e⟩
      · rw [e]; exact w3 i g
      · rw [e]; exact ht⟩
    (by rw [ho]; exact hS.2.2.2.1 q hq) (fun u hu g => rfl) (by
      rw [hn', zup_at, zup_at]
      refine ⟨rfl, zL_same hadd ?_⟩
      intro i hi
      rcases hall i hi with ⟨g, e⟩ | ⟨g, e⟩
      · refine ⟨by rw [e, zup_ne _ _ (by omega)], ?_⟩
        rw [zup_ne _ _ (show i ≠ zqn s q by omega)]
      · rw [g, zup_at, zup_at]
        exact ⟨hnew, rfl⟩) (fun u hu g => ⟨zup_ne _ _ g, zup_ne _ _ g⟩)
  exact ⟨r1, r2, r3, r4⟩
