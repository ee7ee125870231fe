/-! told the last one first: the same rows, layers, checksum -/
def zBk (s s' : Nat → Nat) : Prop := zrn s' = zrn s ∧ ∀ r, r < zrn s → zrh s' r = zrh s (zrn s - 1 - r) ∧ zbn s' r = zbn s (zrn s - 1 - r) ∧ ∀ i, i < zbn s (zrn s - 1 - r) → zba s' r i = zba s (zrn s - 1 - r) (zbn s (zrn s - 1 - r) - 1 - i) ∧ zbN s' r i = zbN s (zrn s - 1 - r) (zbn s (zrn s - 1 - r) - 1 - i)
theorem zBk_any {s s' : Nat → Nat} (h : zBk s s') {r : Nat} (hr : r < zrn s) (p : zA → Bool → Bool) : zany (fun i => p (zba s' r i) (zbN s' r i)) (zbn s' r) = zany (fun i => p (zba s (zrn s - 1 - r) i) (zbN s (zrn s - 1 - r) i)) (zbn s (zrn s - 1 - r)) := by
  obtain ⟨h1, h2, h3⟩ := h.2 r hr
  rw [h2, Bool.eq_iff_iff, zany_iff, zany_iff]
  constructor
  · rintro ⟨i, hi, g⟩
    obtain ⟨e1, e2⟩ := h3 i hi
    rw [e1, e2] at g
    exact ⟨_, by omega, g⟩
  · rintro ⟨i, hi, g⟩
    refine ⟨zbn s (zrn s - 1 - r) - 1 - i, by omega, ?_⟩
    obtain ⟨e1, e2⟩ := h3 (zbn s (zrn s - 1 - r) - 1 - i) (by omega)
    rw [e1, e2, show zbn s (zrn s - 1 - r) - 1 - (zbn s (zrn s - 1 - r) - 1 - i) = i by omega]
    exact g
theorem zBk_all {s s' : Nat → Nat} (h : zBk s s') {r : Nat} (hr : r < zrn s) (p : zA → Bool → Bool) : zall (fun i => p (zba s' r i) (zbN s' r i)) (zbn s' r) = zall (fun i => p (zba s (zrn s - 1 - r) i) (zbN s (zrn s - 1 - r) i)) (zbn s (zrn s - 1 - r)) := by
  obtain ⟨h1, h2, h3⟩ := h.2 r hr
  rw [h2, Bool.eq_iff_iff, zall_iff, zall_iff]
  constructor
  · intro g i hi
    obtain ⟨e1, e2⟩ := h3 (zbn s (zrn s - 1 - r) - 1 - i) (by omega)
    have := g (zbn s (zrn s - 1 - r) - 1 - i) (by omega)
    rw [e1, e2, show zbn s (zrn s - 1 - r) - 1 - (zbn s (zrn s - 1 - r) - 1 - i) = i by omega] at this
    exact this
  · intro g i hi
    obtain ⟨e1, e2⟩ := h3 i hi
    rw [e1, e2]
    exact g _ (by omega)
theorem zBk_bv {s s' : Nat → Nat} (hs : zRul s) (hs' : zRul s') (h : zBk s s') {r : Nat} (hr : r < zrn s) (n : Bool) : zbv s' r n = zbv s (zrn s - 1 - r) n := by
  have hr' : r < zrn s' := by rw [h.1]; exact hr
  have h1 := zbv_lt hs' hr' n
  have h2 := zbv_lt hs (show zrn s - 1 - r < zrn s by omega) n
  refine zbits_eq ⟨_, h1⟩ ⟨_, h2⟩ ?_
  intro v
  show (zbv s' r n).testBit v.val = (zbv s (zrn s - 1 - r) n).testBit v.val
  unfold zbv
  rw [zLV_bit v.isLt (fun i hi => ((hs'.2 r hr').2.2 i hi).1), zLV_bit v.isLt (fun i hi => ((hs.2 _ (show zrn s - 1 - r < zrn s by omega)).2.2 i hi).1)]
  exact zBk_any h hr (fun a b => decide (b = n) && zaH a v.val)
theorem zBk_idle {s s' : Nat → Nat} (hs : zRul s) (hs' : zRul s') (h : zBk s s') {r : Nat} (hr : r < zrn s) : zidle s' r = zidle s (zrn s - 1 - r) := by
  unfold zidle
  rw [(h.2 r hr).1, zBk_bv hs hs' h hr, zBk_bv hs hs' h hr]
theorem zBk_vr {s s' : Nat → Nat} (hs : zRul s) (hs' : zRul s') (h : zBk s s') {r : Nat} (hr : r < zrn s) (y : Nat) : zvr s' r y = zvr s (zrn s - 1 - r) y ∧ zrc s' r = zrc s (zrn s - 1 - r) := by
  have hb : zrb s' r = zrb s (zrn s - 1 - r) := zBk_bv hs hs' h hr false
  have hp : zrpl s' r = zrpl s (zrn s - 1 - r) := by unfold zrpl; rw [hb]
  have hc : zrc s' r = zrc s (zrn s - 1 - r) := by unfold zrc; rw [hb]
  refine ⟨?_, hc⟩
  funext v
  unfold zvr
  rw [hp, hc]
theorem zBk_giv {s s' : Nat → Nat} (hs : zRul s) (hs' : zRul s') (h : zBk s s') {r : Nat} (hr : r < zrn s) (R : Nat → Nat → Bool) (k : Nat) : zgiv R s' r k = zgiv R s (zrn s - 1 - r) k := by
  unfold zgiv
  rw [(zBk_vr hs hs' h hr 0).2]
  apply zany_cong
  intro y _
  have e1 : zfr R s' r y = zfr R s (zrn s - 1 - r) y := by
    unfold zfr zgv
    rw [(zBk_vr hs hs' h hr y).1]
    exact zBk_all h hr (fun a b => (R a.1 (zaR a (zvr s (zrn s - 1 - r) y))) != b)
  have e2 : zro s' r y = zro s (zrn s - 1 - r) y := by
    unfold zro
    rw [(zBk_vr hs hs' h hr y).1, (h.2 r hr).1]
  rw [e1, e2]
theorem zBk_wk {s s' : Nat → Nat} (hs : zRul s) (hs' : zRul s') (h : zBk s s') {r : Nat} (hr : r < zrn s) (M : Nat → Nat) (l : Nat) : zwk s' M l r = zwk s M l (zrn s - 1 - r) := by
  unfold zwk
  rw [zBk_idle hs hs' h hr, (h.2 r hr).1]
theorem zBk_over {s s' : Nat → Nat} (h : zBk s s') (p p' : Nat → Bool) (e : ∀ r, r < zrn s → p' r = p (zrn s - 1 - r)) : zany p' (zrn s') = zany p (zrn s) := by
  rw [h.1, Bool.eq_iff_iff, zany_iff, zany_iff]
  constructor
  · rintro ⟨r, hr, g⟩
    exact ⟨zrn s - 1 - r, by omega, by rw [← e r hr]; exact g⟩
  · rintro ⟨r, hr, g⟩
    refine ⟨zrn s - 1 - r, by omega, ?_⟩
    rw [e _ (by omega), show zrn s - 1 - (zrn s - 1 - r) = r by omega]
    exact g
theorem zBk_givs {s s' : Nat → Nat} (hs : zRul s) (hs' : zRul s') (h : zBk s s') (R : Nat → Nat → Bool) (M : Nat → Nat) (l t k : Nat) : zgivs R s' M l t k (zrn s') = zgivs R s M l t k (zrn s) := by
  unfold zgivs
  exact zBk_over h _ _ (fun r hr => by rw [zBk_wk hs hs' h hr, (h.2 r hr).1, zBk_giv hs hs' h hr])
theorem zBk_E {s s' : Nat → Nat} (h : zBk s s') : zE s' = zE s := by
  funext a u w
  apply propext
  constructor
  · rintro ⟨r, i, g1, g2, g3, g4, g5⟩
    rw [h.1] at g1
    obtain ⟨h1, h2, h3⟩ := h.2 r g1
    rw [h2] at g2
    obtain ⟨e1, e2⟩ := h3 i g2
    exact ⟨zrn s - 1 - r, zbn s (zrn s - 1 - r) - 1 - i, by omega, by omega, by rw [g3, h1], by rw [g4, e1], by rw [g5, e2]⟩
  · rintro ⟨r, i, g1, g2, g3, g4, g5⟩
    obtain ⟨h1, h2, h3⟩ := h.2 (zrn s - 1 - r) (by omega)
    rw [show zrn s - 1 - (zrn s - 1 - r) = r by omega] at h1 h2 h3
    obtain ⟨e1, e2⟩ := h3 (zbn s r - 1 - i) (by omega)
    rw [show zbn s r - 1 - (zbn s r - 1 - i) = i by omega] at e1 e2
    exact ⟨zrn s - 1 - r, zbn s r - 1 - i, by rw [h.1]; omega, by rw [h2]; omega, by rw [g3, h1], by rw [g4, e1], by rw [g5, e2]⟩
theorem zBk_rnd {s s' : Nat → Nat} (hs : zRul s) (hs' : zRul s') (h : zBk s s') (M : Nat → Nat) (l : Nat) : ∀ n b z, zrnd s' M l n b z = zrnd s M l n b z := by
  intro n
  have e1 : ∀ R, zstp R s' M l = zstp R s M l := by
    intro R
    funext t k
    unfold zstp
    rw [zBk_givs hs hs' h]
  have e2 : ∀ R, znw R s' M l = znw R s M l := by
    intro R
    unfold znw
    exact zany_cong (fun i _ => by rw [zBk_givs hs hs' h])
  induction n with
  | zero => intro b z; rfl
  | succ n ih =>
    intro b z
    rw [zrnd, zrnd]
    cases b
    · rw [if_neg (by decide), if_neg (by decide)]
    · rw [if_pos rfl, if_pos rfl, e1, e2]
      exact ih _ _
theorem zBk_ly {s s' : Nat → Nat} (hs : zRul s) (hs' : zRul s') (h : zBk s s') (hf : zeqR (zfacts s') (zfacts s)) (M : Nat → Nat) : ∀ l, zeqR (zly s' M l).1 (zly s M l).1 ∧ (zly s' M l).2 = (zly s M l).2
  | 0 => ⟨hf, rfl⟩
  | l + 1 => by
    obtain ⟨i1, i2⟩ := zBk_ly hs hs' h hf M l
    rw [zly, zly, zBk_rnd hs hs' h]
    have hb : zany (zwk s' M l) (zrn s') = zany (zwk s M l) (zrn s) := zBk_over h _ _ (fun r hr => zBk_wk hs hs' h hr M l)
    rw [hb]
    have hc := zrnd_cong i1 hs M l 2562 (zany (zwk s M l) (zrn s)) (zly s' M l).2
    have e : zly s M l = ((zly s M l).1, (zly s' M l).2) := by rw [i2]
    rw [e]
    exact hc
theorem zBk_rows {s s' : Nat → Nat} (hW : zWF s) (hW' : zWF s') (h : zBk s s') (hf : zeqR (zfacts s') (zfacts s)) : zMs s' = zMs s ∧ zeqR (zRw s') (zRw s) := by
  have hM := zMs_E (zBk_E h)
  refine ⟨hM, ?_⟩
  unfold zRw
  rw [hM]
  exact (zBk_ly hW.2.2.2.2.2.2.1 hW'.2.2.2.2.2.2.1 h hf (zMs s) 5).1
/-! the checksum depends on tables, rows and queries alone -/
theorem zcq_cong {f g : Nat → Nat} (x : Int32) : ∀ q, (∀ u, u < q → f u = g u) → zcq f q x = zcq g q x
  | 0, _ => rfl
  | q + 1, h => by rw [zcq, zcq, zcq_cong x q (fun u hu => h u (by omega)), h q (by omega)]
theorem zca_width {s s' : Nat → Nat} (R : Nat → Nat → Bool) (x : Int32) : ∀ t, (∀ u, u < t → s' (1 + u) = s (1 + u)) → zca R s' t x = zca R s t x
  | 0, _ => rfl
  | t + 1, h => by rw [zca, zca, zca_width R x t (fun u hu => h u (by omega)), h t (by omega)]
theorem zqP_sm {R : Nat → Nat → Bool} {s s' : Nat → Nat} {q : Nat} (h : zsmQ s s' q) : zqP R s' q = zqP R s q := by
  obtain ⟨a1, a2, a3⟩ := h
  have hv : zqv s' q = zqv s q := by
    unfold zqv
    rw [a1]
    exact zLV_cong (fun i hi => ⟨a3 i hi, rfl⟩)
  have hpl : zqpl s' q = zqpl s q := by unfold zqpl; rw [hv, a2]
  have hc : zqc s' q = zqc s q := by unfold zqc; rw [hv, a2]
  funext y
  unfold zqP zans zfa
  rw [hpl, hc, a1]
  have : zall (fun i => R (zqa s' q i).1 (zaR (zqa s' q i) (fun v => zext (zqpl s q) (zqc s q) 0 z0 y v % 8))) (zqn s q) = zall (fun i => R (zqa s q i).1 (zaR (zqa s q i) (fun v => zext (zqpl s q) (zqc s q) 0 z0 y v % 8))) (zqn s q) := zall_cong (fun i hi => by rw [a3 i hi])
  rw [this]
theorem zSum_same {s s' : Nat → Nat} (hW : zWF s) (h0 : s' 0 = s 0) (hw : ∀ t, t < s 0 → s' (1 + t) = s (1 + t)) (hQ : ∀ q, q < 4 → zsmQ s s' q) (hR : zeqR (zRw s') (zRw s)) : zSum s' = zSum s := by
  have h5 := hW.1
  unfold zSum
  rw [h0, zca_width (zRw s') 17 (s 0) hw, zca_cong s 17 (s 0) (fun u hu j hj => hR u j (by omega) hj)]
  apply zcq_cong
  intro q hq
  rw [zqP_sm (hQ q hq), zqP_R hR (hW.2.2.2.2.2.1 q hq).1]
/-! without rules the rows are the facts -/
theorem zly_none {s : Nat → Nat} (hn : zrn s = 0) (M : Nat → Nat) : ∀ l, (zly s M l).1 = zfacts s
  | 0 => rfl
  | l + 1 => by
    rw [zly, hn]
    show (zrnd s M l 2562 false (zly s M l)).1 = _
    rw [zrnd, if_neg (by decide)]
    exact zly_none hn M l
theorem zRw_none {s : Nat → Nat} (hn : zrn s = 0) : zRw s = zfacts s := zly_none hn (zMs s) 5
