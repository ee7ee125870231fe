/-! the row at a number, the values of a column, the greatest value below -/
theorem zC_column {now : Nat → Int32} {s : Nat → Nat} (h : zM now s) (hW : zWF s) {wd : Nat → Int32} (hwd : ∀ t, t < s 0 → wd t = nI (s (1 + t))) {t : Nat} (ht : t < s 0) (p : Int32) :
    (∃ c, c < s (1 + t) ∧ p = nI c ∧ fX11_needColumn wd (nI t) p = some (.inr (), ()) ∧ fX12_in p 0 (nI (s (1 + t)) - 1) = some true) ∨ (fX11_needColumn wd (nI t) p = some (.inl 0, ()) ∧ fX12_in p 0 (nI (s (1 + t)) - 1) = some false) := by
  have h5 := hW.1
  obtain ⟨c1, c3⟩ := hW.2.1 t ht
  unfold fX11_needColumn fX11_needColumn_19
  rw [zX6_at wd (show t < 5 by omega) (by omega), Option.bind_some, hwd t ht]
  rcases zC_in1 p (T := s (1 + t)) (by omega) with ⟨n, hn, rfl, e⟩ | ⟨g, e⟩
  · left
    exact ⟨n, hn, rfl, by rw [if_neg (nI_pos (by omega)), if_pos (by rw [zi_lt (by omega) (by omega)]; exact hn)], e⟩
  · right
    refine ⟨?_, e⟩
    rcases zC_lt p (by omega) g with g | ⟨g1, g2⟩
    · rw [if_pos g]
    · rw [if_neg g1, if_neg g2]
theorem zrow_next {R : Nat → Bool} : ∀ d a, R (a + d) = true → ∃ n, a ≤ n ∧ n ≤ a + d ∧ R n = true ∧ ∀ j, a ≤ j → j < n → R j = false := by
  intro d
  induction d with
  | zero => intro a h; exact ⟨a, Nat.le_refl _, Nat.le_refl _, h, fun j h1 h2 => by omega⟩
  | succ d ih =>
    intro a h
    cases e : R a
    · obtain ⟨n, h1, h2, h3, h4⟩ := ih (a + 1) (by rw [show a + 1 + d = a + (d + 1) by omega]; exact h)
      refine ⟨n, by omega, by omega, h3, ?_⟩
      intro j q1 q2
      by_cases g : j = a
      · rw [g]; exact e
      · exact h4 j (by omega) q2
    · exact ⟨a, Nat.le_refl _, by omega, e, fun j h1 h2 => by omega⟩
theorem zX12_row55 (K : Nat) (hK : 3000 < K) (now : Nat → Int32) {row : Nat → Int32} {R : Nat → Nat → Bool} (hrow : zMr row R) {t r : Nat} (ht : t < 5) (hr : r < 512) (hRr : R t r = true) (p2 p3 : Int32) : ∀ left k a x4, x4 + 1 = nI a → zcnt (R t) a + left = zcnt (R t) r → a ≤ r → left + 1 < k → fX12_rowAt_55 K now row (nI t) p2 p3 k x4 (nI left) 0 = (fX12_valueIn (nI r) p3).bind fun q94 => some (q94, 0) := by
  have e512 : (512 : Int32) = nI 512 := rfl
  have scan : ∀ (r55 : Int32 → Int32 → Int32 → Option (Int32 × Int32)) (x5 : Int32) {a n : Nat}, a ≤ n → n < 512 → R t n = true → (∀ j, a ≤ j → j < n → R t j = false) → fX12_rowAt_63 K now row (nI t) p2 p3 r55 K (nI a) x5 0 = r55 (nI n) (x5 + (-1 : Int32)) 0 := by
    intro r55 x5 a n han hn hRn hno
    refine z_forE (F := fun k i (_ : Unit) => fX12_rowAt_63 K now row (nI t) p2 p3 r55 k (nI i) x5 0) (n := n) (inv := fun i _ => a ≤ i) ?_ ?_ (n - a) K a () (by omega) (Nat.le_refl _) (by omega)
    · intro k i _ hi ha
      left
      refine ⟨(), by omega, ?_⟩
      show fX12_rowAt_63 K now row (nI t) p2 p3 r55 (k + 1) (nI i) x5 0 = _
      rw [fX12_rowAt_63, e512, zi_mul, zi_add, if_pos (by rw [zi_inB (by omega)]; omega), zi_clamp (by omega), hrow t i ht (by omega), hno i ha hi, if_pos (show bI false = 0 from rfl), ← nI_succ]
    · intro k _ _
      show fX12_rowAt_63 K now row (nI t) p2 p3 r55 (k + 1) (nI n) x5 0 = _
      rw [fX12_rowAt_63, e512, zi_mul, zi_add, if_pos (by rw [zi_inB (by omega)]; omega), zi_clamp (by omega), hrow t n ht hn, hRn, if_neg (show ¬ bI true = 0 by decide)]
  intro left
  induction left with
  | zero =>
    intro k a x4 hx hc ha hk
    obtain ⟨k, rfl⟩ : ∃ z, k = z + 1 := ⟨k - 1, by omega⟩
    obtain ⟨k, rfl⟩ : ∃ z, k = z + 1 := ⟨k - 1, by omega⟩
    obtain ⟨n, h1, h2, h3, h4⟩ := zrow_next (R := R t) (r - a) a (by rw [show a + (r - a) = r by omega]; exact hRr)
    have hf := zcnt_flat (p := R t) h1 h4
    have hnr : n = r := by
      apply Classical.byContradiction
      intro g
      have := zcnt_mono (R t) (show n + 1 ≤ r by omega)
      rw [zcnt_s, h3] at this
      have e1 : (true).toNat = 1 := rfl
      rw [e1] at this
      omega
    rw [fX12_rowAt_55, if_neg (nI_pos (by omega)), hx, scan _ _ h1 (by omega) h3 h4, hnr, fX12_rowAt_55, if_pos (by decide)]
  | succ left ih =>
    intro k a x4 hx hc ha hk
    obtain ⟨k, rfl⟩ : ∃ z, k = z + 1 := ⟨k - 1, by omega⟩
    have hrl := zcnt_le (R t) r
    obtain ⟨n, h1, h2, h3, h4⟩ := zrow_next (R := R t) (r - a) a (by rw [show a + (r - a) = r by omega]; exact hRr)
    have hf := zcnt_flat (p := R t) h1 h4
    have hnr : n < r := by
      apply Classical.byContradiction
      intro g
      have : n = r := by omega
      rw [this] at hf
      omega
    rw [fX12_rowAt_55, if_neg (nI_pos (by omega)), hx, scan _ _ h1 (by omega) h3 h4, zi_dec]
    have e1 : (true).toNat = 1 := rfl
    exact ih k (n + 1) (nI n) (nI_succ n).symm (by rw [zcnt_s, h3, e1]; omega) (by omega) (by omega)
theorem zc_rowAt (K : Nat) (hK : 1000000 < K) {s : Nat → Nat} (hW : zWF s) {M : Nat → Nat} (hM : zLst (zE s) M) (hM4 : ∀ t, t < 5 → M t ≤ 4) {wd : Nat → Int32} (hwd : ∀ t, t < s 0 → wd t = nI (s (1 + t))) {fa : Nat → Int64} {hd : Nat → Int32} {bc : Nat → Nat → Int32} {bs : Nat → Int32} {rtt : Int32} (hfa : zeqR (zw fa) (zfacts s)) (hR : zRc hd bc bs rtt s) (q : zR13) (w fr : Nat → Int64) (g re fi : Nat → Int32) (rt im : Int32) (hg : im = 0 ∨ im = 1 ∧ zGn s M w g re fi rt) {now row layer value : Nat → Int32} {rounds : Int32} (hm : zM now s) (hrow : zMr row (zly s M 5).1) (hl : ∀ t, t < 5 → layer t = nI (M t)) (hro : rounds = nI (zly s M 5).2) (hval : ∃ val, zMv value val) (p p2 p3 th : Int32) :
    ∃ e r q' w' fr' g' re' fi' rt' im', zapg (fX11_rowAt K wd fa hd bc bs (nI (s 0)) rtt p p2 p3) q w fr g re fi rt im = some (e, zrs q' w' fr' g' re' fi' rt' im') ∧ fX12_rowAt K now row p p2 p3 th = some r ∧ zAg [0] 0 e r ∧ zGa s M w g re fi rt im w' g' re' fi' rt' im' := by
  have h5 := hW.1
  obtain ⟨q', w', fr', g', re', fi', rt', er, hn, hw'⟩ := zRefresh K hK hW hM hM4 hfa hR q w fr g re fi rt im hg
  unfold zapg fX11_rowAt fX12_rowAt fX12_rowAt_43 fX12_fails
  rcases zC_table hm hW.1 p with ⟨t, ht, rfl, e1, e2⟩ | ⟨e1, e2⟩
  · obtain ⟨c1, c3⟩ := hW.2.1 t ht
    have h2 := zcnt_le ((zly s M 5).1 t) 512
    have hcs : zcnt (zw w' t) 512 = zcnt ((zly s M 5).1 t) 512 := zcnt_cong (fun j hj => hn.1 t j (by omega) hj)
    rw [e1, e2, Option.bind_some, Option.bind_some, if_neg (show ¬ bI true = 0 by decide), zX12_rowsOf K (by omega) hrow (show t < 5 by omega), Option.bind_some, zX12_columnsOf hm (show t < 5 by omega)]
    have cls : ∀ {x : (Nat ⊕ Unit) × Unit}, fX11_needColumn wd (nI t) p3 = some x → ∀ f1 f2, ((fX11_needColumn wd (nI t) p3).bind fun q8 => q8.1.elim f1 f2 : Option ((Nat ⊕ Int32) × zR20)) = x.1.elim f1 f2 := by
      intro x hx f1 f2
      rw [hx]; rfl
    rcases zC_column hm hW hwd ht p3 with ⟨c, hc, rfl, e3, e4⟩ | ⟨e3, e4⟩
    · rcases zC_in1 p2 (T := zcnt ((zly s M 5).1 t) 512) (by omega) with ⟨n, hnn, rfl, e5⟩ | ⟨g5, e5⟩
      · obtain ⟨r, hr, hr1, hr2, hr3⟩ := zX7_numbered K (by omega) w' (show t < 5 by omega) (n := n) (by rw [hcs]; exact hnn)
        have hRr : (zly s M 5).1 t r = true := by rw [← hn.1 t r (by omega) hr]; exact hr1
        have hcr : zcnt ((zly s M 5).1 t) r = n := by rw [← hr2]; exact zcnt_cong (fun j hj => (hn.1 t j (by omega) (by omega)).symm)
        have hv : fX12_valueIn (nI r) (nI c) = some (nI (zcol r c)) := zX12_valueIn hr (by omega)
        have hv2 : fX11_valueIn (nI r) (nI c) = some (nI (zcol r c)) := zX11_valueIn hr (by omega)
        have hz0 : zcnt ((zly s M 5).1 t) 0 = 0 := rfl
        rw [e5, Option.bind_some, if_neg (show ¬ bI true = 0 by decide), Option.bind_some, e4, Option.bind_some, if_neg (show ¬ bI true = 0 by decide), zX12_row55 K (by omega) now hrow (show t < 5 by omega) hr hRr (nI n) (nI c) n K 0 (-1) (by decide) (by omega) (Nat.zero_le _) (by omega), hv, Option.bind_some]
        refine ⟨.inr (nI (zcol r c)), _, q', w', fr', g', re', fi', rt', 1, ?_, rfl, Or.inr ⟨_, rfl, rfl⟩, Or.inr ⟨rfl, hn, hw'⟩⟩
        refine (cls e3 _ _).trans ?_
        show ((zap (fX4_refresh K fa hd bc bs rtt) q w fr g re fi rt im).bind _) = _
        rw [er, Option.bind_some]
        rw [if_neg (nI_pos (by omega))]
        show ((fX7_size K w' (nI t)).bind fun q35 => if nI n < q35 then ((fX7_numbered K w' (nI t) (nI n)).bind fun q60 => (fX11_valueIn q60 (nI c)).bind fun q64 => some (Sum.inr q64, zrs q' w' fr' g' re' fi' rt' 1)) else _) = _
        rw [zX7_size K (by omega) w' (show t < 5 by omega), Option.bind_some, hcs, if_pos (by rw [zi_lt (by omega) (by omega)]; exact hnn), hr3, Option.bind_some, hv2, Option.bind_some]
      · rw [e5, Option.bind_some, if_pos (show bI false = 0 from rfl)]
        refine ⟨.inl 0, _, q', w', fr', g', re', fi', rt', 1, ?_, rfl, Or.inl ⟨0, by decide, rfl, rfl⟩, Or.inr ⟨rfl, hn, hw'⟩⟩
        refine (cls e3 _ _).trans ?_
        show ((zap (fX4_refresh K fa hd bc bs rtt) q w fr g re fi rt im).bind _) = _
        rw [er, Option.bind_some]
        rcases zC_lt p2 (by omega) g5 with g | ⟨g1, g2⟩
        · rw [if_pos g]; rfl
        · rw [if_neg g1]
          show ((fX7_size K w' (nI t)).bind fun q35 => if p2 < q35 then _ else some (Sum.inl 0, zrs q' w' fr' g' re' fi' rt' 1)) = _
          rw [zX7_size K (by omega) w' (show t < 5 by omega), Option.bind_some, hcs, if_neg g2]
    · have hb : ∃ r, ((fX12_in p2 0 (nI (zcnt ((zly s M 5).1 t) 512) - 1)).bind fun q22 => if (bI q22) = 0 then ((some ((0 : Int32), (1 : Int32))).bind fun q45 => some (q45.1, q45.2)) else ((some (nI (s (1 + t)))).bind fun q32 => (fX12_in p3 (0 : Int32) (q32 - (1 : Int32))).bind fun q37 => if (bI q37) = 0 then ((some ((0 : Int32), (1 : Int32))).bind fun q45 => some (q45.1, q45.2)) else (fX12_rowAt_55 K now row (nI t) p2 p3 K (-1 : Int32) p2 (0 : Int32)))) = some r ∧ r = (0, 1) := by
        rcases zC_in1 p2 (T := zcnt ((zly s M 5).1 t) 512) (by omega) with ⟨n, hnn, rfl, e5⟩ | ⟨g5, e5⟩
        · rw [e5, Option.bind_some, if_neg (show ¬ bI true = 0 by decide), Option.bind_some, e4, Option.bind_some, if_pos (show bI false = 0 from rfl)]
          exact ⟨_, rfl, rfl⟩
        · rw [e5, Option.bind_some, if_pos (show bI false = 0 from rfl)]
          exact ⟨_, rfl, rfl⟩
      obtain ⟨r, hb1, hb2⟩ := hb
      refine ⟨.inl 0, r, q, w, fr, g, re, fi, rt, im, ?_, hb1, Or.inl ⟨0, by decide, rfl, by rw [hb2]; rfl⟩, Or.inl ⟨rfl, rfl, rfl, rfl, rfl, rfl⟩⟩
      exact cls e3 _ _
  · rw [e1, e2, Option.bind_some, Option.bind_some, if_pos (show bI false = 0 from rfl)]
    exact ⟨.inl 0, _, q, w, fr, g, re, fi, rt, im, rfl, rfl, Or.inl ⟨0, by decide, rfl, rfl⟩, Or.inl ⟨rfl, rfl, rfl, rfl, rfl, rfl⟩⟩
