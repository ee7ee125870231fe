/-! a round of a layer -/
def zgivs (R : Nat → Nat → Bool) (s : Nat → Nat) (M : Nat → Nat) (l t k n : Nat) : Bool := zany (fun r => zwk s M l r && (decide (t = (zrh s r).1) && zgiv R s r k)) n
def zstp (R : Nat → Nat → Bool) (s : Nat → Nat) (M : Nat → Nat) (l t k : Nat) : Bool := R t k || zgivs R s M l t k (zrn s)
def znw (R : Nat → Nat → Bool) (s : Nat → Nat) (M : Nat → Nat) (l : Nat) : Bool := zany (fun i => zgivs R s M l (i / 512) (i % 512) (zrn s) && !R (i / 512) (i % 512)) 2560
def zeqR (R R' : Nat → Nat → Bool) : Prop := ∀ t k, t < 5 → k < 512 → R t k = R' t k
theorem zfr_cong {R R' : Nat → Nat → Bool} (h : zeqR R R') {s : Nat → Nat} (hs : zRul s) {r : Nat} (hr : r < zrn s) (y : Nat) : zfr R s r y = zfr R' s r y := by
  unfold zfr zgv
  apply zall_cong
  intro i hi
  have hA := ((hs.2 r hr).2.2 i hi).1
  rw [h _ _ hA.1 (zaR_lt (a := zba s r i) (zvr s r y) (fun v _ => Nat.mod_lt _ (by decide)) hA)]
theorem zgiv_cong {R R' : Nat → Nat → Bool} (h : zeqR R R') {s : Nat → Nat} (hs : zRul s) {r : Nat} (hr : r < zrn s) (k : Nat) : zgiv R s r k = zgiv R' s r k := by
  unfold zgiv
  apply zany_cong
  intro y _
  rw [zfr_cong h hs hr]
theorem zgivs_cong {R R' : Nat → Nat → Bool} (h : zeqR R R') {s : Nat → Nat} (hs : zRul s) (M : Nat → Nat) (l t k : Nat) {n : Nat} (hn : n ≤ zrn s) : zgivs R s M l t k n = zgivs R' s M l t k n := by
  unfold zgivs
  apply zany_cong
  intro r hr
  rw [zgiv_cong h hs (by omega)]
theorem zstp_cong {R R' : Nat → Nat → Bool} (h : zeqR R R') {s : Nat → Nat} (hs : zRul s) (M : Nat → Nat) (l : Nat) : zeqR (zstp R s M l) (zstp R' s M l) := by
  intro t k ht hk
  unfold zstp
  rw [h t k ht hk, zgivs_cong h hs M l t k (Nat.le_refl _)]
theorem znw_cong {R R' : Nat → Nat → Bool} (h : zeqR R R') {s : Nat → Nat} (hs : zRul s) (M : Nat → Nat) (l : Nat) : znw R s M l = znw R' s M l := by
  unfold znw
  apply zany_cong
  intro i hi
  rw [h _ _ (show i / 512 < 5 by omega) (Nat.mod_lt _ (by decide)), zgivs_cong h hs M l _ _ (Nat.le_refl _)]
theorem znw_iff (R : Nat → Nat → Bool) (s : Nat → Nat) (M : Nat → Nat) (l : Nat) : znw R s M l = true ↔ ∃ t k, t < 5 ∧ k < 512 ∧ zgivs R s M l t k (zrn s) = true ∧ R t k = false := by
  unfold znw
  rw [zany_iff]
  constructor
  · rintro ⟨i, hi, g⟩
    rw [Bool.and_eq_true, Bool.not_eq_true'] at g
    exact ⟨i / 512, i % 512, by omega, Nat.mod_lt _ (by decide), g.1, g.2⟩
  · rintro ⟨t, k, ht, hk, g1, g2⟩
    refine ⟨512 * t + k, by omega, ?_⟩
    rw [show (512 * t + k) / 512 = t by omega, show (512 * t + k) % 512 = k by omega, g1, g2]; rfl
theorem zRz_stp {R : Nat → Nat → Bool} {s : Nat → Nat} (hs : zRul s) (h : zRz R s) (M : Nat → Nat) (l : Nat) : zRz (zstp R s M l) s := by
  intro t ht k hk g
  unfold zstp at g
  rw [Bool.or_eq_true] at g
  rcases g with g | g
  · exact h t ht k hk g
  · unfold zgivs at g
    rw [zany_iff] at g
    obtain ⟨r, hr, g⟩ := g
    simp only [Bool.and_eq_true, decide_eq_true_eq] at g
    obtain ⟨_, g2, g3⟩ := g
    unfold zgiv at g3
    rw [zany_iff] at g3
    obtain ⟨y, _, g3⟩ := g3
    simp only [Bool.and_eq_true, decide_eq_true_eq] at g3
    have ha := (hs.2 r hr).1
    have := zaR_zin ha (w := zvr s r y) (fun v _ => Nat.mod_lt _ (by decide))
    rw [← g3.2, g2]
    exact this
abbrev zR20 := (Nat → Int32) × Int32 × (Nat → Int32) × (Nat → Int32) × (Nat → Int32) × (Nat → Int32) × (Nat → Int32) × (Nat → Int32) × Int32 × Int32 × Int32 × Int32 × Int32 × (Nat → Int64) × (Nat → Int64) × (Nat → Int32) × (Nat → Int32) × (Nat → Int32) × Int32 × Int32
abbrev zG20 := (Nat → Int32) → Int32 → (Nat → Int32) → (Nat → Int32) → (Nat → Int32) → (Nat → Int32) → (Nat → Int32) → (Nat → Int32) → Int32 → Int32 → Int32 → Int32 → Int32 → (Nat → Int64) → (Nat → Int64) → (Nat → Int32) → (Nat → Int32) → (Nat → Int32) → Int32 → Int32 → Option zR20
def zap (f : zG20) (q : zR13) (w fr : Nat → Int64) (g re fi : Nat → Int32) (rt im : Int32) : Option zR20 :=
  f q.1 q.2.1 q.2.2.1 q.2.2.2.1 q.2.2.2.2.1 q.2.2.2.2.2.1 q.2.2.2.2.2.2.1 q.2.2.2.2.2.2.2.1 q.2.2.2.2.2.2.2.2.1 q.2.2.2.2.2.2.2.2.2.1 q.2.2.2.2.2.2.2.2.2.2.1 q.2.2.2.2.2.2.2.2.2.2.2.1 q.2.2.2.2.2.2.2.2.2.2.2.2 w fr g re fi rt im
theorem zX4_r88 (K : Nat) (hK : 1000000 < K) (fa : Nat → Int64) {heads : Nat → Int32} {bc : Nat → Nat → Int32} {bs : Nat → Int32} {rt : Int32} {s : Nat → Nat} (hs : zRul s) (hR : zRc heads bc bs rt s) (r42 : Int32 → zG20) (r57 : Int32 → Int32 → Int32 → zG20) {l : Nat} (hl : l < 1000) (x4 : Int32) (w : Nat → Int64) (hz : zRz (zw w) s) {g : Nat → Int32} {M : Nat → Nat} (hg : ∀ t, t < 5 → g t = nI (M t)) (hM : ∀ t, t < 5 → M t ≤ 4) (rtt im : Int32) (q : zR13) (fr : Nat → Int64) (hfr : ∀ t k, t < 5 → k < 512 → zw fr t k = false) (re fi : Nat → Int32) :
    ∃ q' w' fr' re' fi', zap (fX4_refresh_88 K fa heads bc bs rt r42 r57 K (nI l) x4 (nI 0)) q w fr g re fi rtt im = zap (r57 (nI l) (bI (znw (zw w) s M l)) (x4 + 1)) q' w' fr' g re' fi' rtt im ∧ zeqR (zw w') (zstp (zw w) s M l) := by
  have hrn := hs.1
  have e1 : (1 : Int32) = nI 1 := rfl
  obtain ⟨⟨q', fr', re', fi'⟩, hinv, e⟩ := z_forD (F := fun k r (z : zR13 × (Nat → Int64) × (Nat → Int32) × (Nat → Int32)) => zap (fX4_refresh_88 K fa heads bc bs rt r42 r57 k (nI l) x4 (nI r)) z.1 w z.2.1 g z.2.2.1 z.2.2.2 rtt im) (n := zrn s)
    (inv := fun r z => ∀ t k, t < 5 → k < 512 → zw z.2.1 t k = zgivs (zw w) s M l t k r)
    (D := fun z => (fX7_take K z.2.1 w).bind fun q129 => zap (r57 (nI l) (bI q129.1) (x4 + 1)) z.1 q129.2 z.2.1 g z.2.2.1 z.2.2.2 rtt im)
    (by
      intro k r z hr hinv
      have hwk := zX4_works K (by omega) hs hR hg hM hr hl
      cases hw : zwk s M l r
      · refine ⟨z, ?_, ?_⟩
        · intro t k ht hk
          rw [hinv t k ht hk]
          show _ = zgivs (zw w) s M l t k (r + 1)
          unfold zgivs
          rw [zany, hw]; simp
        · show zap (fX4_refresh_88 K fa heads bc bs rt r42 r57 (k + 1) (nI l) x4 (nI r)) z.1 w z.2.1 g z.2.2.1 z.2.2.2 rtt im = _
          unfold zap
          rw [fX4_refresh_88, hR.1, if_neg (by rw [zi_le (by omega) (by omega)]; omega), hwk, Option.bind_some, hw, if_pos (show bI false = 0 from rfl)]
          unfold fX4_refresh_115
          rw [e1, zi_add]
      · have hid : zidle s r = false := by
          unfold zwk at hw
          rw [Bool.and_eq_true, Bool.not_eq_true'] at hw
          exact hw.1
        obtain ⟨q2, fr2, re2, fi2, f1, f2, f3, f4⟩ := zX4_fire K hK hs hR w hz hr hid z.1 z.2.1 z.2.2.1 z.2.2.2
        refine ⟨(q2, fr2, re2, fi2), ?_, ?_⟩
        · intro t k ht hk
          show zw fr2 t k = _
          rw [f2 t k ht hk, hinv t k ht hk]
          show _ = zgivs (zw w) s M l t k (r + 1)
          unfold zgivs
          rw [zany, hw, Bool.true_and]
        · show zap (fX4_refresh_88 K fa heads bc bs rt r42 r57 (k + 1) (nI l) x4 (nI r)) z.1 w z.2.1 g z.2.2.1 z.2.2.2 rtt im = _
          unfold zap
          rw [fX4_refresh_88, hR.1, if_neg (by rw [zi_le (by omega) (by omega)]; omega), hwk, Option.bind_some, hw, if_neg (show ¬ bI true = 0 by decide), f1, Option.bind_some]
          unfold fX4_refresh_115
          rw [e1, zi_add])
    (by
      intro k z hinv
      show zap (fX4_refresh_88 K fa heads bc bs rt r42 r57 (k + 1) (nI l) x4 (nI (zrn s))) z.1 w z.2.1 g z.2.2.1 z.2.2.2 rtt im = _
      unfold zap
      rw [fX4_refresh_88, hR.1, if_pos (by rw [zi_le (by omega) (by omega)]; omega)])
    (zrn s) K 0 (q, fr, re, fi) (by omega) (fun t k ht hk => by rw [hfr t k ht hk]; rfl) (by omega)
  obtain ⟨b, w', et, h1, h2⟩ := zX7_take K (by omega) fr' w
  have hb : b = znw (zw w) s M l := by
    rw [Bool.eq_iff_iff, h2, znw_iff]
    constructor
    · rintro ⟨t, k, ht, hk, g1, g2⟩
      exact ⟨t, k, ht, hk, by rw [← hinv t k ht hk]; exact g1, g2⟩
    · rintro ⟨t, k, ht, hk, g1, g2⟩
      exact ⟨t, k, ht, hk, by rw [hinv t k ht hk]; exact g1, g2⟩
  refine ⟨q', w', fr', re', fi', ?_, ?_⟩
  · have e' : zap (fX4_refresh_88 K fa heads bc bs rt r42 r57 K (nI l) x4 (nI 0)) q w fr g re fi rtt im = (fX7_take K fr' w).bind fun q129 => zap (r57 (nI l) (bI q129.1) (x4 + 1)) q' q129.2 fr' g re' fi' rtt im := e
    rw [e', et, Option.bind_some, hb]
  · intro t k ht hk
    rw [h1 t k ht hk, hinv t k ht hk]; rfl
