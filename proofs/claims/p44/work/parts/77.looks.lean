/-! calls that look at the rows -/
abbrev zF20 (β : Type) := (Nat → Int32) → Int32 → (Nat → Int32) → (Nat → Int32) → (Nat → Int32) → (Nat → Int32) → (Nat → Int32) → (Nat → Int32) → Int32 → Int32 → Int32 → Int32 → Int32 → (Nat → Int64) → (Nat → Int64) → (Nat → Int32) → (Nat → Int32) → (Nat → Int32) → Int32 → Int32 → β
def zapg {β : Type} (f : zF20 β) (q : zR13) (w fr : Nat → Int64) (g re fi : Nat → Int32) (rt im : Int32) : β :=
  f q.1 q.2.1 q.2.2.1 q.2.2.2.1 q.2.2.2.2.1 q.2.2.2.2.2.1 q.2.2.2.2.2.2.1 q.2.2.2.2.2.2.2.1 q.2.2.2.2.2.2.2.2.1 q.2.2.2.2.2.2.2.2.2.1 q.2.2.2.2.2.2.2.2.2.2.1 q.2.2.2.2.2.2.2.2.2.2.2.1 q.2.2.2.2.2.2.2.2.2.2.2.2 w fr g re fi rt im
/-- what is grown afterwards: as it was, or anew -/
def zGa (s : Nat → Nat) (M : Nat → Nat) (w : Nat → Int64) (g re fi : Nat → Int32) (rt im : Int32) (w' : Nat → Int64) (g' re' fi' : Nat → Int32) (rt' im' : Int32) : Prop :=
  (im' = im ∧ w' = w ∧ g' = g ∧ re' = re ∧ fi' = fi ∧ rt' = rt) ∨ (im' = 1 ∧ zGn s M w' g' re' fi' rt' ∧ (im = 1 → w' = w))
theorem zc_rowCount (K : Nat) (hK : 1000000 < K) {s : Nat → Nat} (hW : zWF s) {M : Nat → Nat} (hM : zLst (zE s) M) (hM4 : ∀ t, t < 5 → M t ≤ 4) {wd : Nat → Int32} (hwd : ∀ t, t < s 0 → wd t = nI (s (1 + t))) {fa : Nat → Int64} {hd : Nat → Int32} {bc : Nat → Nat → Int32} {bs : Nat → Int32} {rtt : Int32} (hfa : zeqR (zw fa) (zfacts s)) (hR : zRc hd bc bs rtt s) (q : zR13) (w fr : Nat → Int64) (g re fi : Nat → Int32) (rt im : Int32) (hg : im = 0 ∨ im = 1 ∧ zGn s M w g re fi rt) {now row layer value : Nat → Int32} {rounds : Int32} (hm : zM now s) (hrow : zMr row (zly s M 5).1) (hl : ∀ t, t < 5 → layer t = nI (M t)) (hro : rounds = nI (zly s M 5).2) (hval : ∃ val, zMv value val) (p th : Int32) :
    ∃ e b q' w' fr' g' re' fi' rt' im', zapg (fX11_rowCount K fa hd bc bs (nI (s 0)) rtt p) q w fr g re fi rt im = some (e, zrs q' w' fr' g' re' fi' rt' im') ∧ fX12_rowCount K now row p th = some b ∧ zAg [0] 0 e b ∧ zGa s M w g re fi rt im w' g' re' fi' rt' im' := by
  have h5 := hW.1
  obtain ⟨q', w', fr', g', re', fi', rt', er, hn, hw'⟩ := zRefresh K hK hW hM hM4 hfa hR q w fr g re fi rt im hg
  unfold zapg fX11_rowCount fX12_rowCount fX12_fails
  rcases zC_table hm hW.1 p with ⟨t, ht, rfl, e1, e2⟩ | ⟨e1, e2⟩
  · rw [e1, e2, Option.bind_some, Option.bind_some, if_neg (show ¬ bI true = 0 by decide), zX12_rowsOf K (by omega) hrow (show t < 5 by omega), Option.bind_some]
    refine ⟨.inr (nI (zcnt ((zly s M 5).1 t) 512)), _, q', w', fr', g', re', fi', rt', 1, ?_, rfl, Or.inr ⟨_, rfl, rfl⟩, Or.inr ⟨rfl, hn, hw'⟩⟩
    show ((zap (fX4_refresh K fa hd bc bs rtt) q w fr g re fi rt im).bind _) = _
    rw [er, Option.bind_some]
    show ((fX7_size K w' (nI t)).bind fun q24 => some (Sum.inr q24, zrs q' w' fr' g' re' fi' rt' 1)) = _
    rw [zX7_size K (by omega) w' (show t < 5 by omega), zcnt_cong (fun k hk => hn.1 t k (by omega) hk)]; rfl
  · rw [e1, e2, Option.bind_some, Option.bind_some, if_pos (show bI false = 0 from rfl)]
    exact ⟨.inl 0, _, q, w, fr, g, re, fi, rt, im, rfl, rfl, Or.inl ⟨0, by decide, rfl, rfl⟩, Or.inl ⟨rfl, rfl, rfl, rfl, rfl, rfl⟩⟩
theorem zc_layerOf (K : Nat) (hK : 1000000 < K) {s : Nat → Nat} (hW : zWF s) {M : Nat → Nat} (hM : zLst (zE s) M) (hM4 : ∀ t, t < 5 → M t ≤ 4) {wd : Nat → Int32} (hwd : ∀ t, t < s 0 → wd t = nI (s (1 + t))) {fa : Nat → Int64} {hd : Nat → Int32} {bc : Nat → Nat → Int32} {bs : Nat → Int32} {rtt : Int32} (hfa : zeqR (zw fa) (zfacts s)) (hR : zRc hd bc bs rtt s) (q : zR13) (w fr : Nat → Int64) (g re fi : Nat → Int32) (rt im : Int32) (hg : im = 0 ∨ im = 1 ∧ zGn s M w g re fi rt) {now row layer value : Nat → Int32} {rounds : Int32} (hm : zM now s) (hrow : zMr row (zly s M 5).1) (hl : ∀ t, t < 5 → layer t = nI (M t)) (hro : rounds = nI (zly s M 5).2) (hval : ∃ val, zMv value val) (p th : Int32) :
    ∃ e b q' w' fr' g' re' fi' rt' im', zapg (fX11_layerOf K fa hd bc bs (nI (s 0)) rtt p) q w fr g re fi rt im = some (e, zrs q' w' fr' g' re' fi' rt' im') ∧ fX12_layerOf now layer p th = some b ∧ zAg [0] 0 e b ∧ zGa s M w g re fi rt im w' g' re' fi' rt' im' := by
  have h5 := hW.1
  obtain ⟨q', w', fr', g', re', fi', rt', er, hn, hw'⟩ := zRefresh K hK hW hM hM4 hfa hR q w fr g re fi rt im hg
  unfold zapg fX11_layerOf fX12_layerOf fX12_fails
  rcases zC_table hm hW.1 p with ⟨t, ht, rfl, e1, e2⟩ | ⟨e1, e2⟩
  · rw [e1, e2, Option.bind_some, Option.bind_some, if_neg (show ¬ bI true = 0 by decide), if_pos (show inB (nI t) 5 = true by rw [zi_inB (by omega)]; omega), zi_clamp (by omega), hl t (by omega)]
    refine ⟨.inr (nI (M t)), _, q', w', fr', g', re', fi', rt', 1, ?_, rfl, Or.inr ⟨_, rfl, rfl⟩, Or.inr ⟨rfl, hn, hw'⟩⟩
    show ((zap (fX4_refresh K fa hd bc bs rtt) q w fr g re fi rt im).bind _) = _
    rw [er, Option.bind_some]
    show ((fX6_at 5 g' (nI t)).bind fun q24 => some (Sum.inr q24, zrs q' w' fr' g' re' fi' rt' 1)) = _
    rw [zX6_at g' (show t < 5 by omega) (by omega), hn.2.1 t (by omega)]; rfl
  · rw [e1, e2, Option.bind_some, Option.bind_some, if_pos (show bI false = 0 from rfl)]
    exact ⟨.inl 0, _, q, w, fr, g, re, fi, rt, im, rfl, rfl, Or.inl ⟨0, by decide, rfl, rfl⟩, Or.inl ⟨rfl, rfl, rfl, rfl, rfl, rfl⟩⟩
theorem zc_rounds (K : Nat) (hK : 1000000 < K) {s : Nat → Nat} (hW : zWF s) {M : Nat → Nat} (hM : zLst (zE s) M) (hM4 : ∀ t, t < 5 → M t ≤ 4) {wd : Nat → Int32} (hwd : ∀ t, t < s 0 → wd t = nI (s (1 + t))) {fa : Nat → Int64} {hd : Nat → Int32} {bc : Nat → Nat → Int32} {bs : Nat → Int32} {rtt : Int32} (hfa : zeqR (zw fa) (zfacts s)) (hR : zRc hd bc bs rtt s) (q : zR13) (w fr : Nat → Int64) (g re fi : Nat → Int32) (rt im : Int32) (hg : im = 0 ∨ im = 1 ∧ zGn s M w g re fi rt) {now row layer value : Nat → Int32} {rounds : Int32} (hm : zM now s) (hrow : zMr row (zly s M 5).1) (hl : ∀ t, t < 5 → layer t = nI (M t)) (hro : rounds = nI (zly s M 5).2) (hval : ∃ val, zMv value val) (th : Int32) :
    ∃ v q' w' fr' g' re' fi' rt', zapg (fX11_rounds K fa hd bc bs rtt) q w fr g re fi rt im = some (v, zrs q' w' fr' g' re' fi' rt' 1) ∧ fX12_rounds rounds th = some (v, 0) ∧ zGa s M w g re fi rt im w' g' re' fi' rt' 1 := by
  obtain ⟨q', w', fr', g', re', fi', rt', er, hn, hw'⟩ := zRefresh K hK hW hM hM4 hfa hR q w fr g re fi rt im hg
  unfold zapg fX11_rounds fX12_rounds
  refine ⟨rounds, q', w', fr', g', re', fi', rt', ?_, rfl, Or.inr ⟨rfl, hn, hw'⟩⟩
  show ((zap (fX4_refresh K fa hd bc bs rtt) q w fr g re fi rt im).bind _) = _
  rw [er, Option.bind_some]
  show some (rt', zrs q' w' fr' g' re' fi' rt' 1) = _
  rw [hn.2.2.2.2, hro]
theorem zc_firings (K : Nat) (hK : 1000000 < K) {s : Nat → Nat} (hW : zWF s) {M : Nat → Nat} (hM : zLst (zE s) M) (hM4 : ∀ t, t < 5 → M t ≤ 4) {wd : Nat → Int32} (hwd : ∀ t, t < s 0 → wd t = nI (s (1 + t))) {fa : Nat → Int64} {hd : Nat → Int32} {bc : Nat → Nat → Int32} {bs : Nat → Int32} {rtt : Int32} (hfa : zeqR (zw fa) (zfacts s)) (hR : zRc hd bc bs rtt s) (q : zR13) (w fr : Nat → Int64) (g re fi : Nat → Int32) (rt im : Int32) (hg : im = 0 ∨ im = 1 ∧ zGn s M w g re fi rt) {now row layer value : Nat → Int32} {rounds : Int32} (hm : zM now s) (hrow : zMr row (zly s M 5).1) (hl : ∀ t, t < 5 → layer t = nI (M t)) (hro : rounds = nI (zly s M 5).2) (hval : ∃ val, zMv value val) (p th : Int32) :
    ∃ e b value' q' w' fr' g' re' fi' rt' im', zapg (fX11_firings K fa hd bc bs rtt p) q w fr g re fi rt im = some (e, zrs q' w' fr' g' re' fi' rt' im') ∧ fX12_firings K now row p th value = some (b.1, b.2, value') ∧ zAg [0] 0 e b ∧ (∃ val, zMv value' val) ∧ zGa s M w g re fi rt im w' g' re' fi' rt' im' := by
  have hrn := hW.2.2.2.2.2.2.1.1
  obtain ⟨q', w', fr', g', re', fi', rt', er, hn, hw'⟩ := zRefresh K hK hW hM hM4 hfa hR q w fr g re fi rt im hg
  unfold zapg fX11_firings fX12_firings fX12_fails
  have hrt := hR.1
  rw [hrt]
  rcases zC_rule hm hW.2.2.2.2.2.2.1.1 p with ⟨r, hr, rfl, e1, e2⟩ | ⟨e1, e2⟩
  · obtain ⟨value', ef, hv⟩ := (zX12_firingsOf K (by omega) hm hW.2.2.2.2.2.2.1 hrow hr hval).1
    rw [e1, e2, Option.bind_some, Option.bind_some, if_neg (show ¬ bI true = 0 by decide), ef, Option.bind_some]
    refine ⟨.inr (nI (if zidle s r = true then 0 else zfir (zly s M 5).1 s r)), (_, _), value', q', w', fr', g', re', fi', rt', 1, ?_, rfl, Or.inr ⟨_, rfl, rfl⟩, hv, Or.inr ⟨rfl, hn, hw'⟩⟩
    rw [← hrt]
    show ((zap (fX4_refresh K fa hd bc bs rtt) q w fr g re fi rt im).bind _) = _
    rw [er, Option.bind_some]
    show ((fX6_at 5 fi' (nI r)).bind fun q24 => some (Sum.inr q24, zrs q' w' fr' g' re' fi' rt' 1)) = _
    rw [zX6_at fi' (show r < 5 by omega) (by omega), hn.2.2.2.1 r hr]; rfl
  · rw [e1, e2, Option.bind_some, Option.bind_some, if_pos (show bI false = 0 from rfl)]
    exact ⟨.inl 0, (_, _), value, q, w, fr, g, re, fi, rt, im, rfl, rfl, Or.inl ⟨0, by decide, rfl, rfl⟩, hval, Or.inl ⟨rfl, rfl, rfl, rfl, rfl, rfl⟩⟩
theorem zc_reasons (K : Nat) (hK : 1000000 < K) {s : Nat → Nat} (hW : zWF s) {M : Nat → Nat} (hM : zLst (zE s) M) (hM4 : ∀ t, t < 5 → M t ≤ 4) {wd : Nat → Int32} (hwd : ∀ t, t < s 0 → wd t = nI (s (1 + t))) {fa : Nat → Int64} {hd : Nat → Int32} {bc : Nat → Nat → Int32} {bs : Nat → Int32} {rtt : Int32} (hfa : zeqR (zw fa) (zfacts s)) (hR : zRc hd bc bs rtt s) (q : zR13) (w fr : Nat → Int64) (g re fi : Nat → Int32) (rt im : Int32) (hg : im = 0 ∨ im = 1 ∧ zGn s M w g re fi rt) {now row layer value : Nat → Int32} {rounds : Int32} (hm : zM now s) (hrow : zMr row (zly s M 5).1) (hl : ∀ t, t < 5 → layer t = nI (M t)) (hro : rounds = nI (zly s M 5).2) (hval : ∃ val, zMv value val) (p a b c th : Int32) :
    ∃ e r value' q' w' fr' g' re' fi' rt' im', zapg (fX11_reasons K wd fa hd bc bs (nI (s 0)) rtt p a b c) q w fr g re fi rt im = some (e, zrs q' w' fr' g' re' fi' rt' im') ∧ fX12_reasons K now row p a b c th value = some (r.1, r.2, value') ∧ zAg [0, 1] 0 e r ∧ (∃ val, zMv value' val) ∧ zGa s M w g re fi rt im w' g' re' fi' rt' im' := by
  have h5 := hW.1
  obtain ⟨q', w', fr', g', re', fi', rt', er, hn, hw'⟩ := zRefresh K hK hW hM hM4 hfa hR q w fr g re fi rt im hg
  unfold zapg fX11_reasons fX12_reasons fX12_fails
  rcases zC_table hm hW.1 p with ⟨t, ht, rfl, e1, e2⟩ | ⟨e1, e2⟩
  · rw [e1, e2, Option.bind_some, Option.bind_some, if_neg (show ¬ bI true = 0 by decide)]
    rcases zC_row hm hW hwd ht a b c with ⟨k, hk, hz, e3, e4, e5, e6⟩ | ⟨e3, e4⟩
    · obtain ⟨value', ef, hv⟩ := zX12_reasonsOf K (by omega) hm hW.2.2.2.2.2.2.1 hrow hval (show t < 5 by omega) hk
      rw [e4, Option.bind_some, if_neg (show ¬ bI true = 0 by decide), e6, Option.bind_some, ef, Option.bind_some]
      refine ⟨.inr (nI (zre (zly s M 5).1 s t k)), (_, _), value', q', w', fr', g', re', fi', rt', 1, ?_, rfl, Or.inr ⟨_, rfl, rfl⟩, hv, Or.inr ⟨rfl, hn, hw'⟩⟩
      show ((fX11_needRow wd (nI t) a b c).bind _) = _
      rw [e3, Option.bind_some]
      show ((zap (fX4_refresh K fa hd bc bs rtt) q w fr g re fi rt im).bind _) = _
      rw [er, Option.bind_some]
      show ((fX11_rowOf a b c).bind fun q38 => (fX4_reasonsOf re' fa (nI t) q38).bind fun q41 => some (Sum.inr q41, zrs q' w' fr' g' re' fi' rt' 1)) = _
      rw [e5, Option.bind_some, zX4_reasonsOf hW.2.2.2.2.2.2.1 hM hM4 hn.2.2.1 hfa (show t < 5 by omega) hk]; rfl
    · rw [e4, Option.bind_some, if_pos (show bI false = 0 from rfl)]
      refine ⟨.inl 1, (_, _), value, q, w, fr, g, re, fi, rt, im, ?_, rfl, Or.inl ⟨1, by decide, rfl, rfl⟩, hval, Or.inl ⟨rfl, rfl, rfl, rfl, rfl, rfl⟩⟩
      show ((fX11_needRow wd (nI t) a b c).bind _) = _
      rw [e3, Option.bind_some]; rfl
  · rw [e1, e2, Option.bind_some, Option.bind_some, if_pos (show bI false = 0 from rfl)]
    exact ⟨.inl 0, (_, _), value, q, w, fr, g, re, fi, rt, im, rfl, rfl, Or.inl ⟨0, by decide, rfl, rfl⟩, hval, Or.inl ⟨rfl, rfl, rfl, rfl, rfl, rfl⟩⟩
