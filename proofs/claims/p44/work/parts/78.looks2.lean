/-! the means in the class, the first row from one on -/
theorem zbitCount : ∀ b : Fin 256, fJ6_bitCount_0f7a4 (nI b.val) = some (nI (zcnt (fun i => b.val.testBit i) 8)) := by decide +kernel
theorem zc_factShare (K : Nat) (hK : 1000000 < K) {s : Nat → Nat} (hW : zWF s) {M : Nat → Nat} (hM : zLst (zE s) M) (hM4 : ∀ t, t < 5 → M t ≤ 4) {wd : Nat → Int32} (hwd : ∀ t, t < s 0 → wd t = nI (s (1 + t))) {fa : Nat → Int64} {hd : Nat → Int32} {bc : Nat → Nat → Int32} {bs : Nat → Int32} {rtt : Int32} (hfa : zeqR (zw fa) (zfacts s)) (hR : zRc hd bc bs rtt s) (q : zR13) (w fr : Nat → Int64) (g re fi : Nat → Int32) (rt im : Int32) (hg : im = 0 ∨ im = 1 ∧ zGn s M w g re fi rt) {now row layer value : Nat → Int32} {rounds : Int32} (hm : zM now s) (hrow : zMr row (zly s M 5).1) (hl : ∀ t, t < 5 → layer t = nI (M t)) (hro : rounds = nI (zly s M 5).2) (hval : ∃ val, zMv value val) (th : Int32) :
    ∃ v q' w' fr' g' re' fi' rt', zapg (fX11_factShare K fa hd bc bs (nI (s 0)) rtt) q w fr g re fi rt im = some (v, zrs q' w' fr' g' re' fi' rt' 1) ∧ fX12_factShare K now row th = some (v, 0) ∧ zGa s M w g re fi rt im w' g' re' fi' rt' 1 := by
  have h5 := hW.1
  have e1 : (1 : Int32) = nI 1 := rfl
  obtain ⟨q', w', fr', g', re', fi', rt', er, hn, hw'⟩ := zRefresh K hK hW hM hM4 hfa hR q w fr g re fi rt im hg
  have hb := zX12_factShare K (by omega) hm hW.2.2.1 hW.1 hrow th
  unfold zapg fX11_factShare
  refine ⟨_, q', w', fr', g', re', fi', rt', ?_, hb, Or.inr ⟨rfl, hn, hw'⟩⟩
  have hsz := zsW_le (zly s M 5).1 (s 0)
  have hsf := zsW_le (zfacts s) (s 0)
  show ((zap (fX4_refresh K fa hd bc bs rtt) q w fr g re fi rt im).bind _) = _
  rw [er, Option.bind_some]
  show ((fX11_rowTotal K (nI (s 0)) w').bind fun q12 => if q12 = 0 then some (Jvm.FP.fconst0, zrs q' w' fr' g' re' fi' rt' 1) else zapg (fX11_factShare_26 K fa hd bc bs (nI (s 0)) rtt K q12 (nI 0) (nI 0)) q' w' fr' g' re' fi' rt' 1) = _
  rw [zX11_rowTotal K (by omega) w' hn.1 hW.1, Option.bind_some]
  unfold zshare
  by_cases g0 : zsW (zly s M 5).1 (s 0) = 0
  · rw [if_pos (by rw [g0]; rfl), if_pos g0]
  · rw [if_neg (show ¬ nI (zsW (zly s M 5).1 (s 0)) = 0 by rw [show (0 : Int32) = nI 0 from rfl, zi_eq (by omega) (by omega)]; exact g0), if_neg g0]
    refine z_forE (F := fun k t (_ : Unit) => zapg (fX11_factShare_26 K fa hd bc bs (nI (s 0)) rtt k (nI (zsW (zly s M 5).1 (s 0))) (nI (zsW (zfacts s) t)) (nI t)) q' w' fr' g' re' fi' rt' 1) (n := s 0) (inv := fun _ _ => True) ?_ ?_ (s 0) K 0 () (by omega) trivial (by omega)
    · intro k t _ ht _
      left
      refine ⟨(), trivial, ?_⟩
      show zapg (fX11_factShare_26 K fa hd bc bs (nI (s 0)) rtt (k + 1) (nI (zsW (zly s M 5).1 (s 0))) (nI (zsW (zfacts s) t)) (nI t)) q' w' fr' g' re' fi' rt' 1 = zapg (fX11_factShare_26 K fa hd bc bs (nI (s 0)) rtt k (nI (zsW (zly s M 5).1 (s 0))) (nI (zsW (zfacts s) t + zcnt (zfacts s t) 512)) (nI (t + 1))) q' w' fr' g' re' fi' rt' 1
      unfold zapg
      rw [fX11_factShare_26, if_neg (by rw [zi_le (by omega) (by omega)]; omega), zX7_size K (by omega) fa (show t < 5 by omega), Option.bind_some, zcnt_cong (fun k hk => hfa t k (by omega) hk), zi_add, e1, zi_add]
    · intro k _ _
      show zapg (fX11_factShare_26 K fa hd bc bs (nI (s 0)) rtt (k + 1) (nI (zsW (zly s M 5).1 (s 0))) (nI (zsW (zfacts s) (s 0))) (nI (s 0))) q' w' fr' g' re' fi' rt' 1 = _
      unfold zapg
      rw [fX11_factShare_26, if_pos (by rw [zi_le (by omega) (by omega)]; omega), if_pos (zf_div _ _ (zi_nab (by omega)) (zi_nab (by omega)) (zi_int0 (by omega) g0))]
      rfl
theorem zc_meanReasons (K : Nat) (hK : 1000000 < K) {s : Nat → Nat} (hW : zWF s) {M : Nat → Nat} (hM : zLst (zE s) M) (hM4 : ∀ t, t < 5 → M t ≤ 4) {wd : Nat → Int32} (hwd : ∀ t, t < s 0 → wd t = nI (s (1 + t))) {fa : Nat → Int64} {hd : Nat → Int32} {bc : Nat → Nat → Int32} {bs : Nat → Int32} {rtt : Int32} (hfa : zeqR (zw fa) (zfacts s)) (hR : zRc hd bc bs rtt s) (q : zR13) (w fr : Nat → Int64) (g re fi : Nat → Int32) (rt im : Int32) (hg : im = 0 ∨ im = 1 ∧ zGn s M w g re fi rt) {now row layer value : Nat → Int32} {rounds : Int32} (hm : zM now s) (hrow : zMr row (zly s M 5).1) (hl : ∀ t, t < 5 → layer t = nI (M t)) (hro : rounds = nI (zly s M 5).2) (hval : ∃ val, zMv value val) (th : Int32) :
    ∃ v value' q' w' fr' g' re' fi' rt', zapg (fX11_meanReasons K fa hd bc bs (nI (s 0)) rtt) q w fr g re fi rt im = some (v, zrs q' w' fr' g' re' fi' rt' 1) ∧ fX12_meanReasons K now row th value = some (v, 0, value') ∧ (∃ val, zMv value' val) ∧ zGa s M w g re fi rt im w' g' re' fi' rt' 1 := by
  have h5 := hW.1
  have hs := hW.2.2.2.2.2.2.1
  have e1 : (1 : Int32) = nI 1 := rfl
  obtain ⟨q', w', fr', g', re', fi', rt', er, hn, hw'⟩ := zRefresh K hK hW hM hM4 hfa hR q w fr g re fi rt im hg
  obtain ⟨value', hb, hv⟩ := zX12_meanReasons K (by omega) hm hs hW.1 hrow th hval
  unfold zapg fX11_meanReasons
  refine ⟨_, value', q', w', fr', g', re', fi', rt', ?_, hb, hv, Or.inr ⟨rfl, hn, hw'⟩⟩
  have hsz := zsW_le (zly s M 5).1 (s 0)
  have hsr := zsR_le hs (zly s M 5).1
  show ((zap (fX4_refresh K fa hd bc bs rtt) q w fr g re fi rt im).bind _) = _
  rw [er, Option.bind_some]
  show ((fX11_rowTotal K (nI (s 0)) w').bind fun q12 => if q12 = 0 then some (Jvm.FP.dconst0, zrs q' w' fr' g' re' fi' rt' 1) else zapg (fX11_meanReasons_27 K fa hd bc bs (nI (s 0)) rtt K q12 (nI 0).toInt64 (nI 0)) q' w' fr' g' re' fi' rt' 1) = _
  rw [zX11_rowTotal K (by omega) w' hn.1 hW.1, Option.bind_some]
  unfold zmean
  by_cases g0 : zsW (zly s M 5).1 (s 0) = 0
  · rw [if_pos (by rw [g0]; rfl), if_pos g0]
  · rw [if_neg (show ¬ nI (zsW (zly s M 5).1 (s 0)) = 0 by rw [show (0 : Int32) = nI 0 from rfl, zi_eq (by omega) (by omega)]; exact g0), if_neg g0]
    refine z_forE (F := fun k t (_ : Unit) => zapg (fX11_meanReasons_27 K fa hd bc bs (nI (s 0)) rtt k (nI (zsW (zly s M 5).1 (s 0))) (nI (zsR (zly s M 5).1 s t)).toInt64 (nI t)) q' w' fr' g' re' fi' rt' 1) (n := s 0) (inv := fun _ _ => True) ?_ ?_ (s 0) K 0 () (by omega) trivial (by omega)
    · intro k t _ ht _
      left
      refine ⟨(), trivial, ?_⟩
      have hst := hsr t
      show zapg (fX11_meanReasons_27 K fa hd bc bs (nI (s 0)) rtt (k + 1) (nI (zsW (zly s M 5).1 (s 0))) (nI (zsR (zly s M 5).1 s t)).toInt64 (nI t)) q' w' fr' g' re' fi' rt' 1 = zapg (fX11_meanReasons_27 K fa hd bc bs (nI (s 0)) rtt k (nI (zsW (zly s M 5).1 (s 0))) (nI (zsR (zly s M 5).1 s t + zsum (fun k => zre (zly s M 5).1 s t k) 512)).toInt64 (nI (t + 1))) q' w' fr' g' re' fi' rt' 1
      unfold zapg
      rw [fX11_meanReasons_27, if_neg (by rw [zi_le (by omega) (by omega)]; omega)]
      have inner := z_forE (F := fun j i (_ : Unit) => zapg (fX11_meanReasons_42 K fa hd bc bs (nI (s 0)) rtt (fX11_meanReasons_27 K fa hd bc bs (nI (s 0)) rtt k) j (nI (zsW (zly s M 5).1 (s 0))) (nI (zsR (zly s M 5).1 s t + zsum (fun k => zre (zly s M 5).1 s t k) i)).toInt64 (nI t) (nI i)) q' w' fr' g' re' fi' rt' 1) (n := 512) (inv := fun _ _ => True) (V := zapg (fX11_meanReasons_27 K fa hd bc bs (nI (s 0)) rtt k (nI (zsW (zly s M 5).1 (s 0))) (nI (zsR (zly s M 5).1 s t + zsum (fun k => zre (zly s M 5).1 s t k) 512)).toInt64 (nI (t + 1))) q' w' fr' g' re' fi' rt' 1)
        (by
          intro j i _ hi _
          left
          refine ⟨(), trivial, ?_⟩
          have hz : ∀ m, zsum (fun k => zre (zly s M 5).1 s t k) m ≤ 20481 * m := by
            intro m
            induction m with
            | zero => exact Nat.le_refl 0
            | succ m ih =>
              show zsum (fun k => zre (zly s M 5).1 s t k) m + zre (zly s M 5).1 s t m ≤ _
              have := zre_le hs (zly s M 5).1 t m
              omega
          have hzi := hz i
          have hzr := zre_le hs (zly s M 5).1 t i
          show zapg (fX11_meanReasons_42 K fa hd bc bs (nI (s 0)) rtt (fX11_meanReasons_27 K fa hd bc bs (nI (s 0)) rtt k) (j + 1) (nI (zsW (zly s M 5).1 (s 0))) (nI (zsR (zly s M 5).1 s t + zsum (fun k => zre (zly s M 5).1 s t k) i)).toInt64 (nI t) (nI i)) q' w' fr' g' re' fi' rt' 1 = zapg (fX11_meanReasons_42 K fa hd bc bs (nI (s 0)) rtt (fX11_meanReasons_27 K fa hd bc bs (nI (s 0)) rtt k) j (nI (zsW (zly s M 5).1 (s 0))) (nI (zsR (zly s M 5).1 s t + (zsum (fun k => zre (zly s M 5).1 s t k) i + zre (zly s M 5).1 s t i))).toInt64 (nI t) (nI (i + 1))) q' w' fr' g' re' fi' rt' 1
          unfold zapg
          rw [fX11_meanReasons_42, if_neg (by rw [show (512 : Int32) = nI 512 from rfl, zi_le (by omega) (by omega)]; omega), zX4_reasonsOf hs hM hM4 hn.2.2.1 hfa (show t < 5 by omega) hi, Option.bind_some, zlI_add (by omega), e1, zi_add, Nat.add_assoc])
        (by
          intro j _ _
          show zapg (fX11_meanReasons_42 K fa hd bc bs (nI (s 0)) rtt (fX11_meanReasons_27 K fa hd bc bs (nI (s 0)) rtt k) (j + 1) (nI (zsW (zly s M 5).1 (s 0))) (nI (zsR (zly s M 5).1 s t + zsum (fun k => zre (zly s M 5).1 s t k) 512)).toInt64 (nI t) (nI 512)) q' w' fr' g' re' fi' rt' 1 = _
          unfold zapg
          rw [fX11_meanReasons_42, if_pos (show (512 : Int32) ≤ nI 512 by decide), e1, zi_add])
        512 K 0 () (by omega) trivial (by omega)
      exact inner
    · intro k _ _
      have hst := hsr (s 0)
      show zapg (fX11_meanReasons_27 K fa hd bc bs (nI (s 0)) rtt (k + 1) (nI (zsW (zly s M 5).1 (s 0))) (nI (zsR (zly s M 5).1 s (s 0))).toInt64 (nI (s 0))) q' w' fr' g' re' fi' rt' 1 = _
      unfold zapg
      rw [fX11_meanReasons_27, if_pos (by rw [zi_le (by omega) (by omega)]; omega), zl2d, if_pos (zd_div _ _ (zi_int0 (by omega) g0))]
      rfl
theorem zX12_first (K : Nat) (hK : 1000 < K) (now : Nat → Int32) {row : Nat → Int32} {R : Nat → Nat → Bool} (hrow : zMr row R) {t k : Nat} (ht : t < 5) (hk : k < 512) {a b c : Int32} (hc : fX12_code a b c = some (nI k)) : fX12_firstFrom_45 K now row (nI t) a b c K 0 0 0 = some (if zcnt (R t) k < zcnt (R t) 512 then (nI (zcnt (R t) k), 0) else (0, 3)) := by
  have e1 : (1 : Int32) = nI 1 := rfl
  refine z_forE (F := fun j i (_ : Unit) => fX12_firstFrom_45 K now row (nI t) a b c j (nI (zcnt (R t) i)) (nI i) 0) (n := k) (inv := fun _ _ => True) ?_ ?_ k K 0 () (by omega) trivial (by omega)
  · intro j i _ hi _
    left
    refine ⟨(), trivial, ?_⟩
    show fX12_firstFrom_45 K now row (nI t) a b c (j + 1) (nI (zcnt (R t) i)) (nI i) 0 = fX12_firstFrom_45 K now row (nI t) a b c j (nI (zcnt (R t) i + (R t i).toNat)) (nI (i + 1)) 0
    rw [fX12_firstFrom_45, hc, Option.bind_some, if_neg (by rw [zi_le (by omega) (by omega)]; omega), show (512 : Int32) = nI 512 from rfl, zi_mul, zi_add, if_pos (by rw [zi_inB (by omega)]; omega), zi_clamp (by omega), hrow t i ht (by omega)]
    unfold fX12_firstFrom_80
    rw [e1, show (0 : Int32) = nI 0 from rfl, zi_add, zi_add, zi_add]
    cases R t i
    · rw [if_pos (show bI false = nI 0 from rfl)]; rfl
    · rw [if_neg (show ¬ bI true = nI 0 by decide)]; rfl
  · intro j _ _
    have h1 := zcnt_le (R t) k
    have h2 := zcnt_le (R t) 512
    show fX12_firstFrom_45 K now row (nI t) a b c (j + 1) (nI (zcnt (R t) k)) (nI k) 0 = _
    rw [fX12_firstFrom_45, hc, Option.bind_some, if_pos (by rw [zi_le (by omega) (by omega)]; omega), zX12_rowsOf K (by omega) hrow ht, Option.bind_some]
    by_cases g : zcnt (R t) k < zcnt (R t) 512
    · rw [if_neg (by rw [zi_le (by omega) (by omega)]; omega), if_pos g]
    · rw [if_pos (by rw [zi_le (by omega) (by omega)]; omega), if_neg g]; rfl
theorem zc_firstFrom (K : Nat) (hK : 1000000 < K) {s : Nat → Nat} (hW : zWF s) {M : Nat → Nat} (hM : zLst (zE s) M) (hM4 : ∀ t, t < 5 → M t ≤ 4) {wd : Nat → Int32} (hwd : ∀ t, t < s 0 → wd t = nI (s (1 + t))) {fa : Nat → Int64} {hd : Nat → Int32} {bc : Nat → Nat → Int32} {bs : Nat → Int32} {rtt : Int32} (hfa : zeqR (zw fa) (zfacts s)) (hR : zRc hd bc bs rtt s) (q : zR13) (w fr : Nat → Int64) (g re fi : Nat → Int32) (rt im : Int32) (hg : im = 0 ∨ im = 1 ∧ zGn s M w g re fi rt) {now row layer value : Nat → Int32} {rounds : Int32} (hm : zM now s) (hrow : zMr row (zly s M 5).1) (hl : ∀ t, t < 5 → layer t = nI (M t)) (hro : rounds = nI (zly s M 5).2) (hval : ∃ val, zMv value val) (p a b c th : Int32) :
    ∃ e r q' w' fr' g' re' fi' rt' im', zapg (fX11_firstFrom K wd fa hd bc bs (nI (s 0)) rtt p a b c) q w fr g re fi rt im = some (e, zrs q' w' fr' g' re' fi' rt' im') ∧ fX12_firstFrom K now row p a b c th = some r ∧ zAg [0, 1, 3] 0 e r ∧ zGa s M w g re fi rt im w' g' re' fi' rt' im' := by
  have h5 := hW.1
  obtain ⟨q', w', fr', g', re', fi', rt', er, hn, hw'⟩ := zRefresh K hK hW hM hM4 hfa hR q w fr g re fi rt im hg
  unfold zapg fX11_firstFrom fX12_firstFrom fX12_fails
  rcases zC_table hm hW.1 p with ⟨t, ht, rfl, e1, e2⟩ | ⟨e1, e2⟩
  · rw [e1, e2, Option.bind_some, Option.bind_some, if_neg (show ¬ bI true = 0 by decide)]
    rcases zC_row hm hW hwd ht a b c with ⟨k, hk, hz, e3, e4, e5, e6⟩ | ⟨e3, e4⟩
    · rw [e4, Option.bind_some, if_neg (show ¬ bI true = 0 by decide), zX12_first K (by omega) now hrow (show t < 5 by omega) hk e6]
      have hcl : zcnt (zw w' t) k = zcnt ((zly s M 5).1 t) k := zcnt_cong (fun j hj => hn.1 t j (by omega) (by omega))
      have hcs : zcnt (zw w' t) 512 = zcnt ((zly s M 5).1 t) 512 := zcnt_cong (fun j hj => hn.1 t j (by omega) hj)
      have h1 := zcnt_le ((zly s M 5).1 t) k
      have h2 := zcnt_le ((zly s M 5).1 t) 512
      by_cases g0 : zcnt ((zly s M 5).1 t) k < zcnt ((zly s M 5).1 t) 512
      · refine ⟨.inr (nI (zcnt ((zly s M 5).1 t) k)), _, q', w', fr', g', re', fi', rt', 1, ?_, rfl, Or.inr ⟨_, rfl, by rw [if_pos g0]⟩, Or.inr ⟨rfl, hn, hw'⟩⟩
        show ((fX11_needRow wd (nI t) a b c).bind _) = _
        rw [e3, Option.bind_some]
        show ((zap (fX4_refresh K fa hd bc bs rtt) q w fr g re fi rt im).bind _) = _
        rw [er, Option.bind_some]
        show ((fX11_rowOf a b c).bind fun q37 => (fX7_countBelow K w' (nI t) q37).bind fun q40 => (fX7_size K w' (nI t)).bind fun q55 => if q40 < q55 then some (Sum.inr q40, zrs q' w' fr' g' re' fi' rt' 1) else some (Sum.inl 3, zrs q' w' fr' g' re' fi' rt' 1)) = _
        rw [e5, Option.bind_some, zX7_countBelow K (by omega) w' (show t < 5 by omega) (by omega), Option.bind_some, zX7_size K (by omega) w' (show t < 5 by omega), Option.bind_some, hcl, hcs, if_pos (by rw [zi_lt (by omega) (by omega)]; exact g0)]
      · refine ⟨.inl 3, _, q', w', fr', g', re', fi', rt', 1, ?_, rfl, Or.inl ⟨3, by decide, rfl, by rw [if_neg g0]; rfl⟩, Or.inr ⟨rfl, hn, hw'⟩⟩
        show ((fX11_needRow wd (nI t) a b c).bind _) = _
        rw [e3, Option.bind_some]
        show ((zap (fX4_refresh K fa hd bc bs rtt) q w fr g re fi rt im).bind _) = _
        rw [er, Option.bind_some]
        show ((fX11_rowOf a b c).bind fun q37 => (fX7_countBelow K w' (nI t) q37).bind fun q40 => (fX7_size K w' (nI t)).bind fun q55 => if q40 < q55 then some (Sum.inr q40, zrs q' w' fr' g' re' fi' rt' 1) else some (Sum.inl 3, zrs q' w' fr' g' re' fi' rt' 1)) = _
        rw [e5, Option.bind_some, zX7_countBelow K (by omega) w' (show t < 5 by omega) (by omega), Option.bind_some, zX7_size K (by omega) w' (show t < 5 by omega), Option.bind_some, hcl, hcs, if_neg (by rw [zi_lt (by omega) (by omega)]; exact g0)]
    · rw [e4, Option.bind_some, if_pos (show bI false = 0 from rfl)]
      refine ⟨.inl 1, _, q, w, fr, g, re, fi, rt, im, ?_, rfl, Or.inl ⟨1, by decide, rfl, rfl⟩, Or.inl ⟨rfl, rfl, rfl, rfl, rfl, rfl⟩⟩
      show ((fX11_needRow wd (nI t) a b c).bind _) = _
      rw [e3, Option.bind_some]; rfl
  · rw [e1, e2, Option.bind_some, Option.bind_some, if_pos (show bI false = 0 from rfl)]
    exact ⟨.inl 0, _, q, w, fr, g, re, fi, rt, im, rfl, rfl, Or.inl ⟨0, by decide, rfl, rfl⟩, Or.inl ⟨rfl, rfl, rfl, rfl, rfl, rfl⟩⟩
