/-! what a change leaves as it was -/
def zsmR (s s' : Nat → Nat) : Prop := zrn s' = zrn s ∧ ∀ r, r < zrn s → zrh s' r = zrh s r ∧ zbn s' r = zbn s r ∧ ∀ i, i < zbn s r → zba s' r i = zba s r i ∧ s' (zbp r i + 4) = s (zbp r i + 4)
def zsmQ (s s' : Nat → Nat) (q : Nat) : Prop := zqn s' q = zqn s q ∧ zqo s' q = zqo s q ∧ ∀ i, i < zqn s q → zqa s' q i = zqa s q i
def zsmT (s s' : Nat → Nat) : Prop := s 0 ≤ s' 0 ∧ ∀ t, t < s 0 → s' (1 + t) = s (1 + t)
theorem zat_same {s s' : Nat → Nat} (hT : zsmT s s') {p : Nat} (ht : s p < s 0) (h : ∀ i, i < 4 → s' (p + i) = s (p + i)) : zat s' p = zat s p := by
  have h0 : s' p = s p := h 0 (by omega)
  unfold zat
  rw [h0, hT.2 _ ht, h 1 (by omega), h 2 (by omega), h 3 (by omega)]
theorem zsmR_of {s s' : Nat → Nat} (hW : zWF s) (hT : zsmT s s') (h : ∀ i, 2654 ≤ i → i < 2780 → s' i = s i) : zsmR s s' := by
  have hrn := hW.2.2.2.2.2.2.1.1
  refine ⟨h 2654 (by omega) (by omega), ?_⟩
  intro r hr
  obtain ⟨w1, w2⟩ := hW.2.2.2.2.2.2.2.1 r hr
  obtain ⟨v1, v2, v3⟩ := hW.2.2.2.2.2.2.1.2 r hr
  have hh := zhp_lt (show r < 5 by omega)
  have hp : zhp r = 2655 + 25 * r := rfl
  refine ⟨zat_same hT w1 (fun i hi => h _ (by omega) (by omega)), h _ (by omega) (by omega), ?_⟩
  intro i hi
  have hb : zbp r i = zhp r + 5 + 5 * i := rfl
  exact ⟨zat_same hT (w2 i hi) (fun j hj => h _ (by omega) (by omega)), h _ (by omega) (by omega)⟩
theorem zsmQ_of {s s' : Nat → Nat} (hW : zWF s) (hT : zsmT s s') {q : Nat} (hq : q < 4) (h : ∀ i, 2570 + 21 * q ≤ i → i < 2570 + 21 * q + 21 → s' i = s i) (ho : s' (2566 + q) = s (2566 + q)) : zsmQ s s' q := by
  obtain ⟨w1, w2, w3⟩ := hW.2.2.2.2.2.1 q hq
  refine ⟨h _ (by omega) (by omega), ho, ?_⟩
  intro i hi
  have hn := w1.1
  have hp : zqp q i = 2570 + 21 * q + 1 + 4 * i := rfl
  exact zat_same hT (w3 i hi) (fun j hj => h _ (by omega) (by omega))
theorem zRul_same {s s' : Nat → Nat} (h : zsmR s s') (hR : zRul s) : zRul s' := by
  obtain ⟨h1, h2⟩ := h
  refine ⟨by rw [h1]; exact hR.1, ?_⟩
  intro r hr
  rw [h1] at hr
  obtain ⟨a1, a2, a3⟩ := h2 r hr
  obtain ⟨b1, b2, b3⟩ := hR.2 r hr
  refine ⟨by rw [a1]; exact b1, by rw [a2]; exact b2, ?_⟩
  intro i hi
  rw [a2] at hi
  obtain ⟨c1, c2⟩ := a3 i hi
  rw [c1, c2]; exact b3 i hi
theorem zbN_same {s s' : Nat → Nat} {r i : Nat} (h : s' (zbp r i + 4) = s (zbp r i + 4)) : zbN s' r i = zbN s r i := by unfold zbN; rw [h]
theorem zE_same {s s' : Nat → Nat} (h : zsmR s s') (a u w : Nat) : zE s' a u w ↔ zE s a u w := by
  obtain ⟨h1, h2⟩ := h
  constructor
  · rintro ⟨r, i, g1, g2, g3, g4, g5⟩
    rw [h1] at g1
    obtain ⟨a1, a2, a3⟩ := h2 r g1
    rw [a2] at g2
    obtain ⟨c1, c2⟩ := a3 i g2
    exact ⟨r, i, g1, g2, by rw [g3, a1], by rw [g4, c1], by rw [g5, zbN_same c2]⟩
  · rintro ⟨r, i, g1, g2, g3, g4, g5⟩
    obtain ⟨a1, a2, a3⟩ := h2 r g1
    obtain ⟨c1, c2⟩ := a3 i g2
    exact ⟨r, i, by rw [h1]; exact g1, by rw [a2]; exact g2, by rw [g3, a1], by rw [g4, c1], by rw [g5, zbN_same c2]⟩
theorem zL_same {c : Nat → Int32} {n : Nat} {A A' : Nat → zA} {N N' : Nat → Bool} (h : zL c n A N) (e : ∀ i, i < n → A' i = A i ∧ N' i = N i) : zL c n A' N' :=
  ⟨h.1, fun i hi => by obtain ⟨e1, e2⟩ := e i hi; rw [e1, e2]; exact h.2 i hi⟩
theorem zRc_same {hd : Nat → Int32} {bc : Nat → Nat → Int32} {bs : Nat → Int32} {rt : Int32} {s s' : Nat → Nat} (h : zsmR s s') (hR : zRc hd bc bs rt s) : zRc hd bc bs rt s' := by
  obtain ⟨h1, h2⟩ := h
  refine ⟨by rw [h1]; exact hR.1, ?_⟩
  intro r hr
  rw [h1] at hr
  obtain ⟨a1, a2, a3⟩ := h2 r hr
  obtain ⟨b1, b2, b3⟩ := hR.2 r hr
  refine ⟨by rw [a1]; exact b1, by rw [a2]; exact b2, ?_⟩
  rw [a2]
  exact zL_same b3 (fun i hi => ⟨(a3 i hi).1, zbN_same (a3 i hi).2⟩)
theorem zWr_same {s s' : Nat → Nat} (hT : s 0 ≤ s' 0) (h : zsmR s s') (hW : ∀ r, r < zrn s → (zrh s r).1 < s 0 ∧ ∀ i, i < zbn s r → (zba s r i).1 < s 0) : ∀ r, r < zrn s' → (zrh s' r).1 < s' 0 ∧ ∀ i, i < zbn s' r → (zba s' r i).1 < s' 0 := by
  obtain ⟨h1, h2⟩ := h
  intro r hr
  rw [h1] at hr
  obtain ⟨a1, a2, a3⟩ := h2 r hr
  obtain ⟨b1, b2⟩ := hW r hr
  refine ⟨by rw [a1]; omega, ?_⟩
  intro i hi
  rw [a2] at hi
  rw [(a3 i hi).1]
  have := b2 i hi
  omega
theorem zWq_same {s s' : Nat → Nat} (hT : s 0 ≤ s' 0) {q : Nat} (h : zsmQ s s' q) (hW : zQ s q ∧ zOr (zqo s q) ∧ ∀ i, i < zqn s q → (zqa s q i).1 < s 0) : zQ s' q ∧ zOr (zqo s' q) ∧ ∀ i, i < zqn s' q → (zqa s' q i).1 < s' 0 := by
  obtain ⟨h1, h2, h3⟩ := h
  obtain ⟨w1, w2, w3⟩ := hW
  refine ⟨⟨by rw [h1]; exact w1.1, ?_⟩, by rw [h2]; exact w2, ?_⟩
  · intro i hi
    rw [h1] at hi
    rw [h3 i hi]; exact w1.2 i hi
  · intro i hi
    rw [h1] at hi
    rw [h3 i hi]
    have := w3 i hi
    omega
theorem zS_same {s s' : Nat → Nat} (h : zsmR s s') (hS : ∃ S, zStb (zE s) S) : ∃ S, zStb (zE s') S := by
  obtain ⟨S, hS⟩ := hS
  exact ⟨S, fun a u w g => hS a u w ((zE_same h a u w).mp g)⟩
theorem zqs_same {qc : Nat → Int32} {qs : Int32} {s s' : Nat → Nat} {q : Nat} (h : zsmQ s s' q) (hq : qs = nI (zqn s q) ∧ zL qc (zqn s q) (zqa s q) (fun _ => false)) : qs = nI (zqn s' q) ∧ zL qc (zqn s' q) (zqa s' q) (fun _ => false) := by
  obtain ⟨h1, h2, h3⟩ := h
  rw [h1]
  exact ⟨hq.1, zL_same hq.2 (fun i hi => ⟨h3 i hi, rfl⟩)⟩
theorem zM_up {now : Nat → Int32} {s : Nat → Nat} (h : zM now s) {i v : Nat} (hv : v < 10000) : zM (upd now i (nI v)) (zup s i v) := by
  intro j hj
  rw [zu_at]
  by_cases e : j = i
  · rw [if_pos e, show zup s i v j = v from if_pos e]; exact ⟨rfl, hv⟩
  · rw [if_neg e, show zup s i v j = s j from if_neg e]; exact h j hj
/-- a change of facts alone -/
theorem zWF_facts {s s' : Nat → Nat} (hW : zWF s) (h : ∀ i, i < 2780 → (i < 6 ∨ 2566 ≤ i) → s' i = s i) (hf1 : zf1 s') (hf : ∀ t k, t < 5 → k < 512 → zfacts s' t k = true → t < s 0 ∧ zin (s (1 + t)) k) (hc : ∀ t, t < 5 → zcnt (zfacts s' t) 512 ≤ 60) : zWF s' ∧ zsmR s s' ∧ (∀ q, q < 4 → zsmQ s s' q) ∧ zsmT s s' := by
  have h0 : s' 0 = s 0 := h 0 (by omega) (by omega)
  have h5 := hW.1
  have hT : zsmT s s' := ⟨by omega, fun t ht => h _ (by omega) (by omega)⟩
  have hR := zsmR_of hW hT (fun i h1 h2 => h i h2 (by omega))
  have hQ : ∀ q, q < 4 → zsmQ s s' q := fun q hq => zsmQ_of hW hT hq (fun i h1 h2 => h i (by omega) (by omega)) (h _ (by omega) (by omega))
  refine ⟨⟨by rw [h0]; exact hW.1, ?_, hf1, ?_, hc, fun q hq => zWq_same hT.1 (hQ q hq) (hW.2.2.2.2.2.1 q hq), zRul_same hR hW.2.2.2.2.2.2.1, zWr_same hT.1 hR hW.2.2.2.2.2.2.2.1, zS_same hR hW.2.2.2.2.2.2.2.2⟩, hR, hQ, hT⟩
  · intro t ht
    rw [h0] at ht
    rw [hT.2 t ht]; exact hW.2.1 t ht
  · intro t k ht hk g
    obtain ⟨a1, a2⟩ := hf t k ht hk g
    rw [h0, hT.2 t a1]; exact ⟨a1, a2⟩
theorem zSR_facts {wd : Nat → Int32} {fa fa' : Nat → Int64} {od hd : Nat → Int32} {qc : Nat → Nat → Int32} {qs : Nat → Int32} {bc : Nat → Nat → Int32} {bs : Nat → Int32} {tt rt : Int32} {s s' : Nat → Nat} (hS : zSR wd fa od hd qc qs bc bs tt rt s) (h0 : s' 0 = s 0) (hR : zsmR s s') (hQ : ∀ q, q < 4 → zsmQ s s' q) (hT : zsmT s s') (hf : zeqR (zw fa') (zfacts s')) : zSR wd fa' od hd qc qs bc bs tt rt s' := by
  obtain ⟨a1, a2, a3, a4, a5, a6⟩ := hS
  refine ⟨by rw [h0]; exact a1, fun t ht => ?_, hf, fun q hq => ?_, fun q hq => zqs_same (hQ q hq) (a5 q hq), zRc_same hR a6⟩
  · rw [h0] at ht
    rw [hT.2 t ht]; exact a2 t ht
  · rw [(hQ q hq).2.1]; exact a4 q hq
theorem zfacts_up (s : Nat → Nat) {t k v : Nat} (ht : t < 5) (hk : k < 512) (t' k' : Nat) (hk' : k' < 512) : zfacts (zup s (6 + 512 * t + k) v) t' k' = if t' = t ∧ k' = k then decide (v = 1) else zfacts s t' k' := by
  unfold zfacts
  by_cases e : t' = t ∧ k' = k
  · rw [if_pos e, e.1, e.2, zup_at]
  · rw [if_neg e, zup_ne _ _ (by omega)]
theorem zfcnt_up (s : Nat → Nat) {t k v : Nat} (ht : t < 5) (hk : k < 512) : zcnt (zfacts (zup s (6 + 512 * t + k) v) t) 512 + (zfacts s t k).toNat = zcnt (zfacts s t) 512 + (decide (v = 1)).toNat := by
  have h := zcnt_up (p := zfacts s t) (q := fun j => if j = k then decide (v = 1) else zfacts s t j) (i := k) (fun j hj => if_neg hj) (m := 512) hk
  have e : (if k = k then decide (v = 1) else zfacts s t k) = decide (v = 1) := if_pos rfl
  have h2 : zcnt (fun j => if j = k then decide (v = 1) else zfacts s t j) 512 + (zfacts s t k).toNat = zcnt (zfacts s t) 512 + (if k = k then decide (v = 1) else zfacts s t k).toNat := h
  rw [e] at h2
  rw [← h2, zcnt_cong (p := zfacts (zup s (6 + 512 * t + k) v) t) (q := fun j => if j = k then decide (v = 1) else zfacts s t j)]
  intro j hj
  rw [zfacts_up s ht hk t j hj]
  by_cases g : j = k
  · rw [if_pos ⟨rfl, g⟩, if_pos g]
  · rw [if_neg (fun q => g q.2), if_neg g]
/-- a fact more, or one less -/
theorem zWF_fact {s : Nat → Nat} (hW : zWF s) {t k v : Nat} (ht : t < s 0) (hk : k < 512) (hv : v ≤ 1) (hz : zin (s (1 + t)) k) (h60 : v = 1 → zcnt (zfacts s t) 512 < 60) :
    zWF (zup s (6 + 512 * t + k) v) ∧ zsmR s (zup s (6 + 512 * t + k) v) ∧ (∀ q, q < 4 → zsmQ s (zup s (6 + 512 * t + k) v) q) ∧ zsmT s (zup s (6 + 512 * t + k) v) := by
  have h5 := hW.1
  have ht5 : t < 5 := by omega
  apply zWF_facts hW
  · intro i h1 h2
    rw [zup_ne _ _ (by omega)]
  · intro i hi
    by_cases e : 6 + i = 6 + 512 * t + k
    · rw [e, zup_at]; exact hv
    · rw [zup_ne _ _ e]; exact hW.2.2.1 i hi
  · intro t' k' ht' hk' g
    rw [zfacts_up s ht5 hk t' k' hk'] at g
    by_cases e : t' = t ∧ k' = k
    · rw [e.1, e.2]; exact ⟨ht, hz⟩
    · rw [if_neg e] at g; exact hW.2.2.2.1 t' k' ht' hk' g
  · intro t' ht'
    by_cases e : t' = t
    · subst e
      have h := zfcnt_up s (t := t') (k := k) (v := v) ht5 hk
      have h2 := hW.2.2.2.2.1 t' ht'
      by_cases g : v = 1
      · have := h60 g
        rw [decide_eq_true g] at h
        have e2 : (true).toNat = 1 := rfl
        rw [e2] at h
        omega
      · rw [decide_eq_false g] at h
        have e2 : (false).toNat = 0 := rfl
        rw [e2] at h
        omega
    · rw [zcnt_cong (q := zfacts s t') (fun j hj => by rw [zfacts_up s ht5 hk t' j hj, if_neg (fun q => e q.1)])]
      exact hW.2.2.2.2.1 t' ht'
