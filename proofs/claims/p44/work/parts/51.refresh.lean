/-! the class grown -/
def zttl (R : Nat → Nat → Bool) (s : Nat → Nat) (t k n : Nat) : Nat := zsum (fun r => if zidle s r = false ∧ t = (zrh s r).1 then zfirk R s r k else 0) n
def zrs (q : zR13) (w fr : Nat → Int64) (g re fi : Nat → Int32) (rt im : Int32) : zR20 :=
  (q.1, q.2.1, q.2.2.1, q.2.2.2.1, q.2.2.2.2.1, q.2.2.2.2.2.1, q.2.2.2.2.2.2.1, q.2.2.2.2.2.2.2.1, q.2.2.2.2.2.2.2.2.1, q.2.2.2.2.2.2.2.2.2.1, q.2.2.2.2.2.2.2.2.2.2.1, q.2.2.2.2.2.2.2.2.2.2.2.1, q.2.2.2.2.2.2.2.2.2.2.2.2, w, fr, g, re, fi, rt, im)
theorem zfirk_cong {R R' : Nat → Nat → Bool} (h : zeqR R R') {s : Nat → Nat} (hs : zRul s) {r : Nat} (hr : r < zrn s) (k : Nat) : zfirk R s r k = zfirk R' s r k := by
  unfold zfirk
  apply zcnt_cong
  intro y _
  rw [zfr_cong h hs hr]
theorem zfir_cong {R R' : Nat → Nat → Bool} (h : zeqR R R') {s : Nat → Nat} (hs : zRul s) {r : Nat} (hr : r < zrn s) : zfir R s r = zfir R' s r := by
  unfold zfir
  apply zcnt_cong
  intro y _
  rw [zfr_cong h hs hr]
theorem zsum_cg {f g : Nat → Nat} : ∀ n, (∀ k, k < n → f k = g k) → zsum f n = zsum g n := by
  intro n
  induction n with
  | zero => intro _; rfl
  | succ n ih =>
    intro h
    show zsum f n + f n = zsum g n + g n
    rw [ih (fun k hk => h k (by omega)), h n (by omega)]
theorem zttl_cong {R R' : Nat → Nat → Bool} (h : zeqR R R') {s : Nat → Nat} (hs : zRul s) (t k : Nat) : zttl R s t k (zrn s) = zttl R' s t k (zrn s) := by
  unfold zttl
  apply zsum_cg
  intro r hr
  rw [zfirk_cong h hs hr]
theorem zfu_t (b : Nat → Bool) (f : Nat → Nat) {r : Nat} (h : b r = false) (u : Nat) : (if b u = true then 0 else if u < r then f u else 0) + (if u = r then f r else 0) = if b u = true then 0 else if u < r + 1 then f u else 0 := by
  by_cases g : u = r
  · subst g; simp [h]
  · have : (u < r + 1) = (u < r) := propext (by omega)
    simp [g, this]
theorem zfu_f (b : Nat → Bool) (f : Nat → Nat) {r : Nat} (h : b r = true) (u : Nat) : (if b u = true then 0 else if u < r then f u else 0) = if b u = true then 0 else if u < r + 1 then f u else 0 := by
  by_cases g : u = r
  · subst g; simp [h]
  · have : (u < r + 1) = (u < r) := propext (by omega)
    simp [this]
theorem zX4_r163 (K : Nat) (hK : 1000000 < K) (fa : Nat → Int64) {heads : Nat → Int32} {bc : Nat → Nat → Int32} {bs : Nat → Int32} {rt : Int32} {s : Nat → Nat} (hs : zRul s) (hR : zRc heads bc bs rt s) (w : Nat → Int64) (hz : zRz (zw w) s) (g : Nat → Int32) (rtt im : Int32) (q : zR13) (fr : Nat → Int64) {re fi : Nat → Int32} (hre : ∀ j, j < 2560 → re j = 0) (hfi : ∀ j, j < 5 → fi j = 0) :
    ∃ q' fr' re' fi', zap (fX4_refresh_163 K fa heads bc bs rt K (nI 0)) q w fr g re fi rtt im = some (zrs q' w fr' g re' fi' rtt im) ∧
      (∀ t k, t < 5 → k < 512 → re' (512 * t + k) = nI (zttl (zw w) s t k (zrn s))) ∧ ∀ u, u < zrn s → fi' u = nI (if zidle s u = true then 0 else zfir (zw w) s u) := by
  have hrn := hs.1
  have e1 : (1 : Int32) = nI 1 := rfl
  obtain ⟨⟨q', fr', re', fi'⟩, ⟨i1, i2⟩, e⟩ := z_forD (F := fun k r (z : zR13 × (Nat → Int64) × (Nat → Int32) × (Nat → Int32)) => zap (fX4_refresh_163 K fa heads bc bs rt k (nI r)) z.1 w z.2.1 g z.2.2.1 z.2.2.2 rtt im) (n := zrn s)
    (inv := fun r z => (∀ t k, t < 5 → k < 512 → z.2.2.1 (512 * t + k) = nI (zttl (zw w) s t k r)) ∧ ∀ u, u < 5 → z.2.2.2 u = nI (if zidle s u = true then 0 else if u < r then zfir (zw w) s u else 0))
    (D := fun z => some (zrs z.1 w z.2.1 g z.2.2.1 z.2.2.2 rtt im))
    (by
      intro k r z hr hinv
      obtain ⟨i1, i2⟩ := hinv
      have hwk := zX9_rests K (by omega) hs hR hr
      cases hw : zidle s r
      · obtain ⟨q2, fr2, re2, fi2, f1, f2, f3, f4⟩ := zX4_fire K hK hs hR w hz hr hw z.1 z.2.1 z.2.2.1 z.2.2.2
        refine ⟨(q2, fr2, re2, fi2), ⟨?_, ?_⟩, ?_⟩
        · intro t k ht hk
          show re2 (512 * t + k) = nI (zttl (zw w) s t k (r + 1))
          rw [f3 t k ht hk, i1 t k ht hk, zi_add]
          show _ = nI (zttl (zw w) s t k r + if zidle s r = false ∧ t = (zrh s r).1 then zfirk (zw w) s r k else 0)
          by_cases g : t = (zrh s r).1
          · rw [if_pos g, if_pos ⟨hw, g⟩]
          · rw [if_neg g, if_neg (fun q => g q.2)]
        · intro u hu
          show fi2 u = _
          rw [f4 u hu, i2 u hu, zi_add]
          rw [zfu_t (zidle s) (zfir (zw w) s) hw u]
        · show zap (fX4_refresh_163 K fa heads bc bs rt (k + 1) (nI r)) z.1 w z.2.1 g z.2.2.1 z.2.2.2 rtt im = _
          unfold zap
          rw [fX4_refresh_163, hR.1, if_neg (by rw [zi_le (by omega) (by omega)]; omega), ← hR.1, hwk, Option.bind_some, hw, if_pos (show bI false = 0 from rfl), f1, Option.bind_some]
          unfold fX4_refresh_185
          rw [e1, zi_add]
      · refine ⟨z, ⟨?_, ?_⟩, ?_⟩
        · intro t k ht hk
          rw [i1 t k ht hk]
          show _ = nI (zttl (zw w) s t k r + if zidle s r = false ∧ t = (zrh s r).1 then zfirk (zw w) s r k else 0)
          rw [if_neg (fun q => by rw [hw] at q; exact absurd q.1 (by decide)), Nat.add_zero]
        · intro u hu
          show z.2.2.2 u = _
          rw [i2 u hu]
          rw [zfu_f (zidle s) (zfir (zw w) s) hw u]
        · show zap (fX4_refresh_163 K fa heads bc bs rt (k + 1) (nI r)) z.1 w z.2.1 g z.2.2.1 z.2.2.2 rtt im = _
          unfold zap
          rw [fX4_refresh_163, hR.1, if_neg (by rw [zi_le (by omega) (by omega)]; omega), ← hR.1, hwk, Option.bind_some, hw, if_neg (show ¬ bI true = 0 by decide)]
          unfold fX4_refresh_185
          rw [e1, zi_add])
    (by
      intro k z hinv
      show zap (fX4_refresh_163 K fa heads bc bs rt (k + 1) (nI (zrn s))) z.1 w z.2.1 g z.2.2.1 z.2.2.2 rtt im = _
      unfold zap
      rw [fX4_refresh_163, hR.1, if_pos (by rw [zi_le (by omega) (by omega)]; omega)]
      rfl)
    (zrn s) K 0 (q, fr, re, fi) (by omega) (⟨fun t k ht hk => by
      show re _ = _
      rw [hre _ (by omega)]; rfl, fun u hu => by
      show fi u = _
      rw [hfi u hu, if_neg (show ¬ u < 0 by omega)]
      split <;> rfl⟩) (by omega)
  refine ⟨q', fr', re', fi', e, i1, ?_⟩
  intro u hu
  have := i2 u (by omega)
  rw [if_pos hu] at this
  exact this
theorem zX4_refresh (K : Nat) (hK : 1000000 < K) (fa : Nat → Int64) {heads : Nat → Int32} {bc : Nat → Nat → Int32} {bs : Nat → Int32} {rt : Int32} {s : Nat → Nat} (hs : zRul s) (hR : zRc heads bc bs rt s) (hfa : zeqR (zw fa) (zfacts s)) (hz : zRz (zw fa) s) {M : Nat → Nat} (hM : zLst (zE s) M) (hM4 : ∀ t, t < 5 → M t ≤ 4) (q : zR13) (w fr : Nat → Int64) (g re fi : Nat → Int32) (rtt : Int32) :
    ∃ q' w' fr' g' re' fi', zap (fX4_refresh K fa heads bc bs rt) q w fr g re fi rtt (nI 0) = some (zrs q' w' fr' g' re' fi' (nI (zly s M 5).2) 1) ∧
      zeqR (zw w') (zly s M 5).1 ∧ (∀ t, t < 5 → g' t = nI (M t)) ∧ (∀ t k, t < 5 → k < 512 → re' (512 * t + k) = nI (zttl (zly s M 5).1 s t k (zrn s))) ∧ ∀ u, u < zrn s → fi' u = nI (if zidle s u = true then 0 else zfir (zly s M 5).1 s u) := by
  have hX : zXr (-1) (-1) s (fun _ _ _ _ => False) := by
    intro r hr
    have := hs.1
    refine ⟨fun g => ?_, fun _ _ _ _ q => q⟩
    exact absurd g (by
      have : ∀ r : Fin 5, ¬ nI r.val = (-1 : Int32) := by decide
      exact this ⟨r, by omega⟩)
  have hEX : ∀ h u w, zEX s (fun _ _ _ _ => False) h u w ↔ zE s h u w := by
    intro h u w
    constructor
    · rintro (e | ⟨_, _, e⟩)
      · exact e
      · exact e.elim
    · exact Or.inl
  have hM' : zLst (zEX s (fun _ _ _ _ => False)) M := by
    have : zEX s (fun _ _ _ _ => False) = zE s := by funext h u w; exact propext (hEX h u w)
    rw [this]; exact hM
  obtain ⟨b, g', e1, _, e2⟩ := zX4_settle K (by omega) hs hR hX g
  have hg := e2 M hM'
  obtain ⟨w0, e3, hw0⟩ := zX7_copyFrom K (by omega) fa w
  have hw0' : ∀ t k, t < 5 → k < 512 → zw w0 t k = zw fa t k := by
    intro t k ht hk
    unfold zw
    rw [hw0 _ (by omega)]
  obtain ⟨q1, w1, fr1, re1, fi1, k1, e4, h1, h2⟩ := zX4_r42 K hK fa hs hR hg hM4 1 w0 (fun t k ht hk => by rw [hw0' t k ht hk]; exact hfa t k ht hk) (fun t ht k hk q => hz t ht k hk (by rw [← hw0' t k ht hk]; exact q)) q fr re fi
  obtain ⟨fi2, e5, hfi2⟩ := zX6_fill K 5 (by omega) (by omega) (0 : Int32) fi1
  obtain ⟨re2, e6, hre2⟩ := zX6_fill K 2560 (by omega) (by omega) (0 : Int32) re1
  obtain ⟨q3, fr3, re3, fi3, e7, h3, h4⟩ := zX4_r163 K hK fa hs hR w1 h2 g' (nI (zly s M 5).2) 1 q1 fr1 (re := re2) (fi := fi2) (fun j hj => by rw [hre2, if_pos hj]) (fun j hj => by rw [hfi2, if_pos hj])
  refine ⟨q3, w1, fr3, g', re3, fi3, ?_, h1, hg, ?_, ?_⟩
  · have e8 : zap (fX4_refresh K fa heads bc bs rt) q w fr g re fi rtt (nI 0) = zap (fX4_refresh_42 K fa heads bc bs rt K (nI 0)) q w0 fr g' re fi (nI 0) 1 := by
      unfold zap
      unfold fX4_refresh
      rw [if_pos (show nI 0 = 0 from rfl), e1, Option.bind_some, e3, Option.bind_some]
      rfl
    have e9 : zap (fX4_refresh_42 K fa heads bc bs rt (k1 + 1) (nI 5)) q1 w1 fr1 g' re1 fi1 (nI (zly s M 5).2) 1 = zap (fX4_refresh_163 K fa heads bc bs rt K (nI 0)) q1 w1 fr1 g' re2 fi2 (nI (zly s M 5).2) 1 := by
      unfold zap
      rw [fX4_refresh_42, if_pos (by decide), e5, Option.bind_some, e6, Option.bind_some]
      rfl
    rw [e8, e4, e9, e7]
  · intro t k ht hk
    rw [h3 t k ht hk, zttl_cong h1 hs]
  · intro u hu
    rw [h4 u hu, zfir_cong h1 hs hu]
