/-! what is grown depends on the rules and the facts alone -/
theorem zR_bN {s s' : Nat → Nat} (h : zsmR s s') {r i : Nat} (hr : r < zrn s) (hi : i < zbn s r) : zbN s' r i = zbN s r i := zbN_same ((h.2 r hr).2.2 i hi).2
theorem zR_bv {s s' : Nat → Nat} (h : zsmR s s') {r : Nat} (hr : r < zrn s) (n : Bool) : zbv s' r n = zbv s r n := by
  unfold zbv
  rw [(h.2 r hr).2.1]
  exact zLV_cong (fun i hi => ⟨((h.2 r hr).2.2 i hi).1, zR_bN h hr hi⟩)
theorem zR_idle {s s' : Nat → Nat} (h : zsmR s s') {r : Nat} (hr : r < zrn s) : zidle s' r = zidle s r := by
  unfold zidle
  rw [(h.2 r hr).1, zR_bv h hr, zR_bv h hr]
theorem zR_pl {s s' : Nat → Nat} (h : zsmR s s') {r : Nat} (hr : r < zrn s) : zrpl s' r = zrpl s r ∧ zrc s' r = zrc s r := by
  unfold zrpl zrc zrb
  rw [zR_bv h hr]
  exact ⟨rfl, rfl⟩
theorem zR_vr {s s' : Nat → Nat} (h : zsmR s s') {r : Nat} (hr : r < zrn s) (y : Nat) : zvr s' r y = zvr s r y := by
  funext v
  unfold zvr
  rw [(zR_pl h hr).1, (zR_pl h hr).2]
theorem zR_fr {s s' : Nat → Nat} (h : zsmR s s') {r : Nat} (hr : r < zrn s) (R : Nat → Nat → Bool) (y : Nat) : zfr R s' r y = zfr R s r y := by
  unfold zfr zgv
  rw [zR_vr h hr, (h.2 r hr).2.1]
  apply zall_cong
  intro i hi
  rw [((h.2 r hr).2.2 i hi).1, zR_bN h hr hi]
theorem zR_ro {s s' : Nat → Nat} (h : zsmR s s') {r : Nat} (hr : r < zrn s) (y : Nat) : zro s' r y = zro s r y := by
  unfold zro
  rw [zR_vr h hr, (h.2 r hr).1]
theorem zR_giv {s s' : Nat → Nat} (h : zsmR s s') {r : Nat} (hr : r < zrn s) (R : Nat → Nat → Bool) (k : Nat) : zgiv R s' r k = zgiv R s r k := by
  unfold zgiv
  rw [(zR_pl h hr).2]
  exact zany_cong (fun y _ => by rw [zR_fr h hr, zR_ro h hr])
theorem zR_fir {s s' : Nat → Nat} (h : zsmR s s') {r : Nat} (hr : r < zrn s) (R : Nat → Nat → Bool) : zfir R s' r = zfir R s r := by
  unfold zfir
  rw [(zR_pl h hr).2]
  exact zcnt_cong (fun y _ => zR_fr h hr R y)
theorem zR_firk {s s' : Nat → Nat} (h : zsmR s s') {r : Nat} (hr : r < zrn s) (R : Nat → Nat → Bool) (k : Nat) : zfirk R s' r k = zfirk R s r k := by
  unfold zfirk
  rw [(zR_pl h hr).2]
  exact zcnt_cong (fun y _ => by rw [zR_fr h hr, zR_ro h hr])
theorem zR_wk {s s' : Nat → Nat} (h : zsmR s s') {r : Nat} (hr : r < zrn s) (M : Nat → Nat) (l : Nat) : zwk s' M l r = zwk s M l r := by
  unfold zwk
  rw [zR_idle h hr, (h.2 r hr).1]
theorem zR_givs {s s' : Nat → Nat} (h : zsmR s s') (R : Nat → Nat → Bool) (M : Nat → Nat) (l t k : Nat) : zgivs R s' M l t k (zrn s') = zgivs R s M l t k (zrn s) := by
  unfold zgivs
  rw [h.1]
  exact zany_cong (fun r hr => by rw [zR_wk h hr, (h.2 r hr).1, zR_giv h hr])
theorem zR_rnd {s s' : Nat → Nat} (h : zsmR s s') (M : Nat → Nat) (l : Nat) : ∀ n b z, zrnd s' M l n b z = zrnd s M l n b z := by
  intro n
  have e1 : ∀ R, zstp R s' M l = zstp R s M l := by
    intro R
    funext t k
    unfold zstp
    rw [zR_givs h]
  have e2 : ∀ R, znw R s' M l = znw R s M l := by
    intro R
    unfold znw
    exact zany_cong (fun i _ => by rw [zR_givs h])
  induction n with
  | zero => intro b z; rfl
  | succ n ih =>
    intro b z
    rw [zrnd, zrnd]
    cases b
    · rw [if_neg (by decide), if_neg (by decide)]
    · rw [if_pos rfl, if_pos rfl, e1, e2]
      exact ih _ _
theorem zR_ly {s s' : Nat → Nat} (h : zsmR s s') (hs : zRul s) (hf : zeqR (zfacts s') (zfacts s)) (M : Nat → Nat) : ∀ l, zeqR (zly s' M l).1 (zly s M l).1 ∧ (zly s' M l).2 = (zly s M l).2
  | 0 => ⟨hf, rfl⟩
  | l + 1 => by
    obtain ⟨i1, i2⟩ := zR_ly h hs hf M l
    rw [zly, zly, zR_rnd h]
    have hb : zany (zwk s' M l) (zrn s') = zany (zwk s M l) (zrn s) := by
      rw [h.1]
      exact zany_cong (fun r hr => zR_wk h hr M l)
    rw [hb]
    have hc := zrnd_cong i1 hs M l 2562 (zany (zwk s M l) (zrn s)) (zly s' M l).2
    have e : zly s M l = ((zly s M l).1, (zly s' M l).2) := by rw [i2]
    rw [e]
    exact hc
theorem zR_ttl {s s' : Nat → Nat} (h : zsmR s s') (R : Nat → Nat → Bool) (t k : Nat) : zttl R s' t k (zrn s') = zttl R s t k (zrn s) := by
  unfold zttl
  rw [h.1]
  apply zsum_cong
  intro r hr
  rw [zR_idle h hr, (h.2 r hr).1, zR_firk h hr]
theorem zR_Gn {s s' : Nat → Nat} (h : zsmR s s') (hs : zRul s) (hf : zeqR (zfacts s') (zfacts s)) {M : Nat → Nat} {w : Nat → Int64} {g re fi : Nat → Int32} {rt : Int32} (hg : zGn s M w g re fi rt) : zGn s' M w g re fi rt := by
  obtain ⟨h1, h2, h3, h4, h5⟩ := hg
  obtain ⟨l1, l2⟩ := zR_ly h hs hf M 5
  have l1' : zeqR (zly s M 5).1 (zly s' M 5).1 := fun t k ht hk => (l1 t k ht hk).symm
  refine ⟨fun t k ht hk => by rw [h1 t k ht hk, l1 t k ht hk], h2, ?_, ?_, by rw [l2]; exact h5⟩
  · intro t k ht hk
    rw [h3 t k ht hk, zR_ttl h, zttl_cong l1' hs]
  · intro u hu
    have hu' : u < zrn s := by rw [← h.1]; exact hu
    rw [h4 u hu', zR_idle h hu', zR_fir h hu', zfir_cong l1' hs hu']
