theorem zgen_any {α : Type} (p : Nat → Bool) (g : Nat → α) (f : α → Bool) : ∀ n, (zgen p g n).any f = zany (fun y => p y && f (g y)) n
  | 0 => rfl
  | n + 1 => by
    rw [zgen, List.any_append, zgen_any p g f n, zany]
    cases p n <;> simp
theorem zgen_countP {α : Type} (p : Nat → Bool) (g : Nat → α) (f : α → Bool) : ∀ n, (zgen p g n).countP f = zcnt (fun y => p y && f (g y)) n
  | 0 => rfl
  | n + 1 => by
    rw [zgen, List.countP_append, zgen_countP p g f n, zcnt_s]
    congr 1
    cases p n
    · rfl
    · rw [if_pos rfl, List.countP_singleton, Bool.true_and]
      cases f (g n) <;> rfl
/-- rows have nothing beyond the columns of their tables -/
def zRz (R : Nat → Nat → Bool) (s : Nat → Nat) : Prop := ∀ t, t < 5 → ∀ k, k < 512 → R t k = true → zin (s (1 + t)) k
theorem zrc_pos {s : Nat → Nat} (hs : zRul s) {r : Nat} (hr : r < zrn s) (hi : zidle s r = false) : 0 < zrc s r := by
  have h1 : zaH (zrh s r) (zrh s r).2.2.1 = true := by unfold zaH; simp
  obtain ⟨m, hm, _⟩ := (zrV hs hr hi).1 _ h1
  omega
theorem zvr_ext {s : Nat → Nat} {r y : Nat} (hy : y < 8 ^ zrc s r) (v : Nat) : zvr s r y v = zext (zrpl s r) (zrc s r) 0 z0 y v % 8 := by
  unfold zvr; rw [zpk_ext (zrD s r) hy]
theorem zw8_cut {a : zA} (ha : zaOK a) (D : Nat → Nat) : zaR a (zw8 (zcut D)) = zaR a (fun v => D v % 8) := by
  apply zaR_cong ha
  intro q hq
  have := zaV_lt ha (show q < 3 by have := ha.2.2.1; omega)
  show (if zaV a q < 4 then D (zaV a q) else 0) % 8 = _
  rw [if_pos this]
theorem zfr_list {R : Nat → Nat → Bool} {s : Nat → Nat} (hs : zRul s) {r : Nat} (hr : r < zrn s) {y : Nat} (hy : y < 8 ^ zrc s r) :
    (zfa R (zfA (zba s r) (zbN s r) (zbn s r)) (zcnt (fun q => !zbN s r q) (zbn s r)) (zext (zrpl s r) (zrc s r) 0 z0 y) && !zbar R s r (zcut (zext (zrpl s r) (zrc s r) 0 z0 y))) = zfr R s r y := by
  obtain ⟨a1, a2, a3⟩ := hs.2 r hr
  have hval : (fun v => zext (zrpl s r) (zrc s r) 0 z0 y v % 8) = zvr s r y := by funext v; exact (zvr_ext hy v).symm
  rw [Bool.eq_iff_iff, Bool.and_eq_true, Bool.not_eq_true']
  unfold zfr zgv zfa
  rw [zall_iff, zall_iff, hval]
  have hb : zbar R s r (zcut (zext (zrpl s r) (zrc s r) 0 z0 y)) = false ↔ ∀ i, i < zbn s r → zbN s r i = true → R (zba s r i).1 (zaR (zba s r i) (zvr s r y)) = false := by
    rw [← Bool.not_eq_true]
    unfold zbar
    rw [zany_iff]
    constructor
    · intro g i hi hN
      rw [← Bool.not_eq_true]
      intro q
      apply g
      refine ⟨i, hi, ?_⟩
      rw [hN, zw8_cut (a3 i hi).1, hval, q]; rfl
    · rintro g ⟨i, hi, q⟩
      rw [Bool.and_eq_true, zw8_cut (a3 i hi).1, hval] at q
      rw [g i hi q.1] at q
      exact absurd q.2 (by decide)
  rw [hb]
  constructor
  · rintro ⟨g1, g2⟩ i hi
    cases hN : zbN s r i
    · obtain ⟨k, hk, e⟩ := zfA_to (A := zba s r) (N := zbN s r) (zbn s r) i hi hN
      have := g1 k hk
      rw [e] at this
      rw [this]; rfl
    · rw [g2 i hi hN]; rfl
  · intro g
    refine ⟨?_, ?_⟩
    · intro k hk
      obtain ⟨i, hi, hN, e⟩ := zfA_of (A := zba s r) (N := zbN s r) (zbn s r) k hk
      have := g i hi
      rw [hN] at this
      rw [e]; simpa using this
    · intro i hi hN
      have := g i hi
      rw [hN] at this
      simpa using this
theorem zX4_fire (K : Nat) (hK : 1000000 < K) {heads : Nat → Int32} {bc : Nat → Nat → Int32} {bs : Nat → Int32} {rt : Int32} {s : Nat → Nat} (hs : zRul s) (hR : zRc heads bc bs rt s) (w : Nat → Int64) (hz : zRz (zw w) s) {r : Nat} (hr : r < zrn s) (hi : zidle s r = false) (q : zR13) (fr : Nat → Int64) (re fi : Nat → Int32) :
    ∃ (q' : zR13) (fr' : Nat → Int64) (re' fi' : Nat → Int32), fX4_fire K w heads bc bs (nI r) q.1 q.2.1 q.2.2.1 q.2.2.2.1 q.2.2.2.2.1 q.2.2.2.2.2.1 q.2.2.2.2.2.2.1 q.2.2.2.2.2.2.2.1 q.2.2.2.2.2.2.2.2.1 q.2.2.2.2.2.2.2.2.2.1 q.2.2.2.2.2.2.2.2.2.2.1 q.2.2.2.2.2.2.2.2.2.2.2.1 q.2.2.2.2.2.2.2.2.2.2.2.2 fr re fi =
      some (q'.1, q'.2.1, q'.2.2.1, q'.2.2.2.1, q'.2.2.2.2.1, q'.2.2.2.2.2.1, q'.2.2.2.2.2.2.1, q'.2.2.2.2.2.2.2.1, q'.2.2.2.2.2.2.2.2.1, q'.2.2.2.2.2.2.2.2.2.1, q'.2.2.2.2.2.2.2.2.2.2.1, q'.2.2.2.2.2.2.2.2.2.2.2.1, q'.2.2.2.2.2.2.2.2.2.2.2.2, fr', re', fi') ∧
      (∀ t k, t < 5 → k < 512 → zw fr' t k = (zw fr t k || (decide (t = (zrh s r).1) && zgiv (zw w) s r k))) ∧
      (∀ t k, t < 5 → k < 512 → re' (512 * t + k) = re (512 * t + k) + nI (if t = (zrh s r).1 then zfirk (zw w) s r k else 0)) ∧
      ∀ u, u < 5 → fi' u = fi u + nI (if u = r then zfir (zw w) s r else 0) := by
  have hrn := hs.1
  obtain ⟨a1, a2, a3⟩ := hs.2 r hr
  obtain ⟨c1, c2, c3⟩ := hR.2 r hr
  obtain ⟨x, hx, ex⟩ := zX8_start K (by omega) zOr_123 c3 q.1 q.2.1 q.2.2.1 q.2.2.2.1 q.2.2.2.2.1 q.2.2.2.2.2.1 q.2.2.2.2.2.2.1 q.2.2.2.2.2.2.2.1 q.2.2.2.2.2.2.2.2.1 q.2.2.2.2.2.2.2.2.2.1 q.2.2.2.2.2.2.2.2.2.2.1 q.2.2.2.2.2.2.2.2.2.2.2.1 q.2.2.2.2.2.2.2.2.2.2.2.2
  have hV := zVp_of (N := zbN s r) zOr_123 (fun i hi => (a3 i hi).1)
  have hin : zRin (zw w) (zfA (zba s r) (zbN s r) (zbn s r)) (zcnt (fun q => !zbN s r q) (zbn s r)) := by
    intro k hk k' hk' g
    obtain ⟨i, h1, h2, h3⟩ := zfA_of (A := zba s r) (N := zbN s r) (zbn s r) k hk
    rw [h3] at g ⊢
    exact hz _ (a3 i h1).1.1 k' hk' g
  obtain ⟨T, m, hzr, hT, hm, _⟩ := zsearch K (by omega) w hx hin hV
  have h8 := zp8 (zrc_le s r)
  have hc0 := zrc_pos hs hr hi
  have hlist : zlq (zw w) (zfA (zba s r) (zbN s r) (zbn s r)) (zcnt (fun q => !zbN s r q) (zbn s r)) (zpl 123 (zLV (zba s r) (zbN s r) false (zbn s r)) 4) (zpc 123 (zLV (zba s r) (zbN s r) false (zbn s r)) 4) = zgen (fun y => zfa (zw w) (zfA (zba s r) (zbN s r) (zbn s r)) (zcnt (fun q => !zbN s r q) (zbn s r)) (zext (zrpl s r) (zrc s r) 0 z0 y)) (fun y => (0 + y, zcut (zext (zrpl s r) (zrc s r) 0 z0 y))) (8 ^ zrc s r) := by
    unfold zlq
    exact if_neg (by show ¬ zrc s r = 0; omega)
  rw [hlist] at hzr
  have hlen : (zgen (fun y => zfa (zw w) (zfA (zba s r) (zbN s r) (zbn s r)) (zcnt (fun q => !zbN s r q) (zbn s r)) (zext (zrpl s r) (zrc s r) 0 z0 y)) (fun y => (0 + y, zcut (zext (zrpl s r) (zrc s r) 0 z0 y))) (8 ^ zrc s r)).length ≤ 4096 := by
    rw [zgen_len]
    exact Nat.le_trans (zcnt_le _ _) h8
  obtain ⟨fr', re', fi', f1, f2, f3, f4⟩ := zfire_run K hK hs hR w hr x.1 (nI (zcnt (fun q => !zbN s r q) (zbn s r))) x.2.2.1 x.2.2.2.1 (nI (zrc s r)) T hT _ K 0 (zst x) m fr re fi hzr hm (by omega) (by omega)
  refine ⟨(x.1, nI (zcnt (fun q => !zbN s r q) (zbn s r)), x.2.2.1, x.2.2.2.1, T.1, T.2.1, T.2.2.1, T.2.2.2.1, nI (zrc s r), T.2.2.2.2.1, T.2.2.2.2.2.1, T.2.2.2.2.2.2.1, T.2.2.2.2.2.2.2), fr', re', fi', ?_, ?_, ?_, ?_⟩
  · unfold fX4_fire
    have h123 : (123 : Int32) = nI 123 := rfl
    rw [zX9_body (show r < 5 by omega), Option.bind_some, zX6_at heads (show r < 5 by omega) (by omega), Option.bind_some, if_pos (by omega), c1, c2, h123, ex, Option.bind_some, hx.1, hx.2.2.1]
    exact f1
  · intro t k ht hk
    rw [f2 t k ht hk, zgen_any]
    congr 2
    unfold zgiv
    apply zany_cong
    intro y hy
    rw [← zfr_list hs hr hy, zw8_cut a1]
    have hro : zaR (zrh s r) (fun v => zext (zrpl s r) (zrc s r) 0 z0 y v % 8) = zro s r y := by
      have hval : (fun v => zext (zrpl s r) (zrc s r) 0 z0 y v % 8) = zvr s r y := by funext v; exact (zvr_ext hy v).symm
      rw [hval]; rfl
    rw [hro, Bool.and_assoc]
  · intro t k ht hk
    rw [f3 t k ht hk, zgen_countP]
    have : zcnt (fun y => zfa (zw w) (zfA (zba s r) (zbN s r) (zbn s r)) (zcnt (fun q => !zbN s r q) (zbn s r)) (zext (zrpl s r) (zrc s r) 0 z0 y) && (!zbar (zw w) s r (zcut (zext (zrpl s r) (zrc s r) 0 z0 y)) && decide (zaR (zrh s r) (zw8 (zcut (zext (zrpl s r) (zrc s r) 0 z0 y))) = k))) (8 ^ zrc s r) = zfirk (zw w) s r k := by
      unfold zfirk
      apply zcnt_cong
      intro y hy
      rw [← zfr_list hs hr hy, zw8_cut a1]
      have hro : zaR (zrh s r) (fun v => zext (zrpl s r) (zrc s r) 0 z0 y v % 8) = zro s r y := by
        have hval : (fun v => zext (zrpl s r) (zrc s r) 0 z0 y v % 8) = zvr s r y := by funext v; exact (zvr_ext hy v).symm
        rw [hval]; rfl
      rw [hro, Bool.and_assoc]
    rw [this]
  · intro u hu
    rw [f4 u hu, zgen_countP]
    have : zcnt (fun y => zfa (zw w) (zfA (zba s r) (zbN s r) (zbn s r)) (zcnt (fun q => !zbN s r q) (zbn s r)) (zext (zrpl s r) (zrc s r) 0 z0 y) && !zbar (zw w) s r (zcut (zext (zrpl s r) (zrc s r) 0 z0 y))) (8 ^ zrc s r) = zfir (zw w) s r := by
      unfold zfir
      apply zcnt_cong
      intro y hy
      exact zfr_list hs hr hy
    rw [this]
