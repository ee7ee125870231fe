/-! idleRows, cover, bound on both sides -/
theorem zX12_idleRows57 (K : Nat) (hK : 600 < K) (now : Nat → Int32) {row made : Nat → Int32} {R : Nat → Nat → Bool} {m : Nat → Bool} (hrow : zMr row R) {t : Nat} (ht : t < 5) (hm : ∀ k, k < 512 → made k = bI (m k)) (p1 p2 : Int32) (value place : Nat → Int32) (places : Int32) :
    fX12_idleRows_57 K now row p1 p2 K (nI t) 0 0 0 value place places made = some (nI (zcnt (fun k => R t k && !m k) 512), 0, value, place, places, made) := by
  have e512 : (512 : Int32) = nI 512 := rfl
  refine z_forE (F := fun k i (x : Int32) => fX12_idleRows_57 K now row p1 p2 k (nI t) x (nI i) 0 value place places made) (n := 512) (inv := fun i x => x = nI (zcnt (fun k => R t k && !m k) i)) ?_ ?_ 512 K 0 0 (by omega) rfl (by omega)
  · intro k i x hi hx
    left
    refine ⟨_, rfl, ?_⟩
    show fX12_idleRows_57 K now row p1 p2 (k + 1) (nI t) x (nI i) 0 value place places made = _
    rw [fX12_idleRows_57, if_neg (show ¬ (512 : Int32) ≤ nI i by rw [e512, zi_le (by omega) (by omega)]; omega), e512, zi_mul, zi_add, if_pos (by rw [zi_inB (by omega)]; omega), zi_clamp (by omega), hrow t i ht hi, if_pos (show inB (nI i) 512 = true by rw [zi_inB (by omega)]; omega), zi_clamp (by omega), hm i hi]
    show (if bI (R t i) = 0 then fX12_idleRows_57 K now row p1 p2 k (nI t) (x + (0 : Int32)) (nI i + (1 : Int32)) 0 value place places made else if bI (m i) = 0 then fX12_idleRows_57 K now row p1 p2 k (nI t) (x + (1 : Int32)) (nI i + (1 : Int32)) 0 value place places made else fX12_idleRows_57 K now row p1 p2 k (nI t) (x + (0 : Int32)) (nI i + (1 : Int32)) 0 value place places made) = _
    rw [zcnt_s, hx, nI_succ i]
    cases e1 : R t i
    · rw [if_pos (show bI false = 0 from rfl), show (0 : Int32) = nI 0 from rfl, zi_add]; rfl
    · rw [if_neg (show ¬ bI true = 0 by decide)]
      cases e2 : m i
      · rw [if_pos (show bI false = 0 from rfl), show (1 : Int32) = nI 1 from rfl, zi_add]; rfl
      · rw [if_neg (show ¬ bI true = 0 by decide), show (0 : Int32) = nI 0 from rfl, zi_add]; rfl
  · intro k x hx
    show fX12_idleRows_57 K now row p1 p2 (k + 1) (nI t) x (nI 512) 0 value place places made = _
    rw [fX12_idleRows_57, if_pos (show (512 : Int32) ≤ nI 512 by decide), hx]
theorem zc_idleRows (K : Nat) (hK : 1000000 < K) {s : Nat → Nat} (hW : zWF s) {M : Nat → Nat} (hM : zLst (zE s) M) (hM4 : ∀ t, t < 5 → M t ≤ 4) {wd : Nat → Int32} (hwd : ∀ t, t < s 0 → wd t = nI (s (1 + t))) {fa : Nat → Int64} {hd : Nat → Int32} {bc : Nat → Nat → Int32} {bs : Nat → Int32} {rtt : Int32} (hfa : zeqR (zw fa) (zfacts s)) (hR : zRc hd bc bs rtt s) (q : zR13) (w fr : Nat → Int64) (g re fi : Nat → Int32) (rt im : Int32) (hg : im = 0 ∨ im = 1 ∧ zGn s M w g re fi rt) {now row layer value : Nat → Int32} {rounds : Int32} (hm : zM now s) (hrow : zMr row (zly s M 5).1) (hl : ∀ t, t < 5 → layer t = nI (M t)) (hro : rounds = nI (zly s M 5).2) (hval : ∃ val, zMv value val) {od : Nat → Int32} (hod : ∀ q, q < 4 → od q = nI (zqo s q)) {qc : Nat → Nat → Int32} {qs : Nat → Int32} (hq5 : ∀ q, q < 4 → qs q = nI (zqn s q) ∧ zL (qc q) (zqn s q) (zqa s q) (fun _ => false)) (r : zR15) (ff : Int32) (hff : zFo s w im r ff) (p p2 th pk : Int32) (md : Nat → Int64) (place : Nat → Int32) (places : Int32) (made : Nat → Int32) :
    ∃ e b q' w' fr' g' re' fi' rt' im' r' pk' md' ff' value' place' places' made', zapr (zapg (fX11_idleRows K fa od hd qc qs bc bs rtt p p2) q w fr g re fi rt im) r pk md ff = some (e, zgr q' w' fr' g' re' fi' rt' im' (zpf r' (pk', md', ff'))) ∧ fX12_idleRows K now row p p2 th value place places made = some (b.1, b.2, value', place', places', made') ∧ (∃ val, zMv value' val) ∧ zAg [0] 0 e b ∧ zGa s M w g re fi rt im w' g' re' fi' rt' im' ∧ zFo s w' im' r' ff' := by
  unfold zapr zapg fX11_idleRows fX12_idleRows fX12_idleRows_27 fX12_fails
  rcases zC_query p with ⟨k, hk, rfl, e1, e2⟩ | ⟨e1, e2⟩
  · obtain ⟨q', w', fr', g', re', fi', rt', r', er, el, hga, hfo, hrow', hfd, hz⟩ := zSee K hK hW hM hM4 hwd hfa hR q w fr g re fi rt im hg hm hrow hl hro hval hod hq5 r ff hff hk
    obtain ⟨h1, h2, h3⟩ := hW.2.2.2.2.2.1 k hk
    have cls : ∀ {pp : Int32} {x : (Nat ⊕ Unit) × Unit}, fX11_needAtom qs (nI k) pp = some x → ∀ f1 f2, ((fX11_needAtom qs (nI k) pp).bind fun q8 => q8.1.elim f1 f2 : Option ((Nat ⊕ Int32) × zR20m)) = x.1.elim f1 f2 := by
      intro pp x hx f1 f2
      rw [hx]; rfl
    rw [e1, e2, Option.bind_some, Option.bind_some, if_neg (show ¬ bI true = 0 by decide), zX12_atoms hm hk, Option.bind_some]
    rcases zC_atom (now := now) hW (fun q hq => (hq5 q hq).1) hk p2 with ⟨i, hi, rfl, e3, e4⟩ | ⟨e3, e4⟩
    · obtain ⟨v', p', ps', made', ef, hv', hmade⟩ := zX12_findsMade K (by omega) hm hrow' hk h1 h2 hi hval place places made
      have hai := h1.2 i hi
      obtain ⟨pk', md', em, hmd⟩ := zX11_markMade K (by omega) hfd hai pk md
      have htab : (zqa s k i).1 < 5 := hai.1
      have hnow : now (zqp k i) = nI (zqa s k i).1 := (hm (zqp k i) (by unfold zqp; have := h1.1; omega)).1
      have hb : zqp k i < 2780 := by unfold zqp; have := h1.1; omega
      rw [e4, Option.bind_some, if_neg (show ¬ bI true = 0 by decide), ef, Option.bind_some, zX12_atomAt, Option.bind_some, if_pos (show inB (nI (zqp k i)) 2780 = true by rw [zi_inB (by omega)]; exact hb), zi_clamp (by omega), hnow]
      have er57 := zX12_idleRows57 K (by omega) now hrow' htab hmade (nI k) (nI i) v' p' ps'
      have hcm : zcnt (zw md' (zqa s k i).1) 512 = zcnt (zmade (zw w') s k (zqa s k i) 4096) 512 := zcnt_cong (fun j hj => by rw [hmd _ j htab hj, decide_eq_true rfl, Bool.true_and])
      have hdiff := zcnt_diff (p := zw w' (zqa s k i).1) (m := zmade (zw w') s k (zqa s k i) 4096) 512 (by
        intro j hj hmj
        unfold zmade at hmj
        obtain ⟨y, y1, y2⟩ := zany_iff.1 hmj
        simp only [Bool.and_eq_true, decide_eq_true_eq] at y2
        rw [← y2.2]
        exact zqP_row h1 h2 hi y2.1)
      refine ⟨.inr (nI (zcnt (fun j => zw w' (zqa s k i).1 j && !zmade (zw w') s k (zqa s k i) 4096 j) 512)), (_, 0), q', w', fr', g', re', fi', rt', 1, r', pk', md', nI k, v', p', ps', made', ?_, er57, hv', Or.inr ⟨_, rfl, rfl⟩, hga, hfo⟩
      refine (cls e3 _ _).trans ?_
      show ((zap (fX4_refresh K fa hd bc bs rtt) q w fr g re fi rt im).bind _) = _
      rw [er, Option.bind_some]
      show ((zapr (fX11_look K od qc qs w' (nI k)) r ff).bind _) = _
      rw [el, Option.bind_some, zX9_query hk, Option.bind_some, if_pos hk, zX2_at (hq5 k hk).2 hi, Option.bind_some]
      show ((fX11_markMade K r'.2.2.1 r'.2.2.2.2.2.2.2.2.1 r'.2.2.2.2.2.2.2.2.2.2.2.2.2.1 r'.2.2.2.2.2.2.2.2.2.2.2.2.2.2 (nI (zaC (zqa s k i) false)) pk md).bind fun q42 => (fX1_table (nI (zaC (zqa s k i) false))).bind fun q46 => (fX7_size K w' q46).bind fun q60 => (fX7_size K q42.2 q46).bind fun q69 => some ((Sum.inr (q60 - q69) : Nat ⊕ Int32), zgr q' w' fr' g' re' fi' rt' 1 (zpf r' (q42.1, q42.2, nI k)))) = _
      rw [em, Option.bind_some, zX1_table hai false, Option.bind_some, zX7_size K (by omega) w' htab, Option.bind_some, zX7_size K (by omega) md' htab, Option.bind_some, hcm, zi_sub (by omega)]
      have : zcnt (zw w' (zqa s k i).1) 512 - zcnt (zmade (zw w') s k (zqa s k i) 4096) 512 = zcnt (fun j => zw w' (zqa s k i).1 j && !zmade (zw w') s k (zqa s k i) 4096 j) 512 := by omega
      rw [this]
    · rw [e4, Option.bind_some, if_pos (show bI false = 0 from rfl)]
      exact ⟨.inl 0, (0, 1), q, w, fr, g, re, fi, rt, im, r, pk, md, ff, value, place, places, made, cls e3 _ _, rfl, hval, Or.inl ⟨0, by decide, rfl, rfl⟩, Or.inl ⟨rfl, rfl, rfl, rfl, rfl, rfl⟩, hff⟩
  · rw [e1, e2, Option.bind_some, Option.bind_some, if_pos (show bI false = 0 from rfl)]
    exact ⟨.inl 0, (0, 1), q, w, fr, g, re, fi, rt, im, r, pk, md, ff, value, place, places, made, rfl, rfl, hval, Or.inl ⟨0, by decide, rfl, rfl⟩, Or.inl ⟨rfl, rfl, rfl, rfl, rfl, rfl⟩, hff⟩
theorem zc_cover (K : Nat) (hK : 1000000 < K) {s : Nat → Nat} (hW : zWF s) {M : Nat → Nat} (hM : zLst (zE s) M) (hM4 : ∀ t, t < 5 → M t ≤ 4) {wd : Nat → Int32} (hwd : ∀ t, t < s 0 → wd t = nI (s (1 + t))) {fa : Nat → Int64} {hd : Nat → Int32} {bc : Nat → Nat → Int32} {bs : Nat → Int32} {rtt : Int32} (hfa : zeqR (zw fa) (zfacts s)) (hR : zRc hd bc bs rtt s) (q : zR13) (w fr : Nat → Int64) (g re fi : Nat → Int32) (rt im : Int32) (hg : im = 0 ∨ im = 1 ∧ zGn s M w g re fi rt) {now row layer value : Nat → Int32} {rounds : Int32} (hm : zM now s) (hrow : zMr row (zly s M 5).1) (hl : ∀ t, t < 5 → layer t = nI (M t)) (hro : rounds = nI (zly s M 5).2) (hval : ∃ val, zMv value val) {qc : Nat → Nat → Int32} {qs : Nat → Int32} (hq5 : ∀ q, q < 4 → qs q = nI (zqn s q) ∧ zL (qc q) (zqn s q) (zqa s q) (fun _ => false)) (sz : Nat → Int32) (lh : Int32) (lp : Int64) (p th : Int32) :
    ∃ e b q' w' fr' g' re' fi' rt' im' sz' lh' lp', zapg (fX11_cover K fa hd qc qs bc bs rtt p) q w fr g re fi rt im sz lh lp = some (e, zgr q' w' fr' g' re' fi' rt' im' (sz', lh', lp')) ∧ fX12_cover K now p th = some b ∧ zAg [0] 0 e b ∧ zGa s M w g re fi rt im w' g' re' fi' rt' im' := by
  obtain ⟨q', w', fr', g', re', fi', rt', er, hn, hw'⟩ := zRefresh K hK hW hM hM4 hfa hR q w fr g re fi rt im hg
  rcases zC_query p with ⟨k, hk, rfl, e1, e2⟩ | ⟨e1, e2⟩
  · obtain ⟨h1, h2, h3⟩ := hW.2.2.2.2.2.1 k hk
    obtain ⟨sz', ew⟩ := zX3_weighAll K (by omega) (hq5 k hk).2 hn.1 (R := (zly s M 5).1) (by
      intro i hi j hj g
      have := zGn_in hW hn.1 hk i hi j hj
      rw [hn.1 _ j (h1.2 i hi).1 hj] at this
      exact this g) sz lh lp
    have ec := zX12_cover K (by omega) hm hk h1 th
    have hz : (if zqn s k = 0 then 0 else zlH (zqa s k) (zqn s k) (3 ^ zqn s k)) = zlH (zqa s k) (zqn s k) (3 ^ zqn s k) := by
      split
      · rename_i g; rw [g, zlH_0]
      · rfl
    rw [hz] at ec
    unfold zapg fX11_cover
    rw [e1, Option.bind_some]
    refine ⟨.inr (nI (zlH (zqa s k) (zqn s k) (3 ^ zqn s k))), _, q', w', fr', g', re', fi', rt', 1, sz', nI (zlH (zqa s k) (zqn s k) (3 ^ zqn s k)), lN (zlP (zqa s k) (fun i => zsz (zly s M 5).1 (zqa s k i)) (zqn s k) (3 ^ zqn s k)), ?_, ec, Or.inr ⟨_, rfl, rfl⟩, Or.inr ⟨rfl, hn, hw'⟩⟩
    show ((zap (fX4_refresh K fa hd bc bs rtt) q w fr g re fi rt im).bind _) = _
    rw [er, Option.bind_some, zX9_query hk, Option.bind_some, if_pos hk, (hq5 k hk).1]
    show ((fX3_weighAll K (qc k) (nI (zqn s k)) w' sz lh lp).bind fun q35 => some ((Sum.inr q35.2.1 : Nat ⊕ Int32), zgr q' w' fr' g' re' fi' rt' 1 (q35.1, q35.2.1, q35.2.2))) = _
    rw [ew, Option.bind_some]
  · unfold zapg fX11_cover fX12_cover fX12_fails
    rw [e1, e2, Option.bind_some, Option.bind_some, if_pos (show bI false = 0 from rfl)]
    exact ⟨.inl 0, (0, 1), q, w, fr, g, re, fi, rt, im, sz, lh, lp, rfl, rfl, Or.inl ⟨0, by decide, rfl, rfl⟩, Or.inl ⟨rfl, rfl, rfl, rfl, rfl, rfl⟩⟩
theorem zc_bound (K : Nat) (hK : 1000000 < K) {s : Nat → Nat} (hW : zWF s) {M : Nat → Nat} (hM : zLst (zE s) M) (hM4 : ∀ t, t < 5 → M t ≤ 4) {wd : Nat → Int32} (hwd : ∀ t, t < s 0 → wd t = nI (s (1 + t))) {fa : Nat → Int64} {hd : Nat → Int32} {bc : Nat → Nat → Int32} {bs : Nat → Int32} {rtt : Int32} (hfa : zeqR (zw fa) (zfacts s)) (hR : zRc hd bc bs rtt s) (q : zR13) (w fr : Nat → Int64) (g re fi : Nat → Int32) (rt im : Int32) (hg : im = 0 ∨ im = 1 ∧ zGn s M w g re fi rt) {now row layer value : Nat → Int32} {rounds : Int32} (hm : zM now s) (hrow : zMr row (zly s M 5).1) (hl : ∀ t, t < 5 → layer t = nI (M t)) (hro : rounds = nI (zly s M 5).2) (hval : ∃ val, zMv value val) {qc : Nat → Nat → Int32} {qs : Nat → Int32} (hq5 : ∀ q, q < 4 → qs q = nI (zqn s q) ∧ zL (qc q) (zqn s q) (zqa s q) (fun _ => false)) (sz : Nat → Int32) (lh : Int32) (lp : Int64) (p th : Int32) (place : Nat → Int32) :
    ∃ e b q' w' fr' g' re' fi' rt' im' sz' lh' lp', zapg (fX11_bound K fa hd qc qs bc bs rtt p) q w fr g re fi rt im sz lh lp = some (e, zgr q' w' fr' g' re' fi' rt' im' (sz', lh', lp')) ∧ fX12_bound K now row value place p th = some b ∧ zAg [0] 0 e b ∧ zGa s M w g re fi rt im w' g' re' fi' rt' im' := by
  obtain ⟨q', w', fr', g', re', fi', rt', er, hn, hw'⟩ := zRefresh K hK hW hM hM4 hfa hR q w fr g re fi rt im hg
  rcases zC_query p with ⟨k, hk, rfl, e1, e2⟩ | ⟨e1, e2⟩
  · obtain ⟨h1, h2, h3⟩ := hW.2.2.2.2.2.1 k hk
    obtain ⟨sz', ew⟩ := zX3_weighAll K (by omega) (hq5 k hk).2 hn.1 (R := (zly s M 5).1) (by
      intro i hi j hj g
      have := zGn_in hW hn.1 hk i hi j hj
      rw [hn.1 _ j (h1.2 i hi).1 hj] at this
      exact this g) sz lh lp
    have ec := zX12_bound K (by omega) hm hrow hval place hk h1 th
    unfold zapg fX11_bound
    rw [e1, Option.bind_some]
    refine ⟨.inr (lN (zlP (zqa s k) (fun i => zsz (zly s M 5).1 (zqa s k i)) (zqn s k) (3 ^ zqn s k))), _, q', w', fr', g', re', fi', rt', 1, sz', nI (zlH (zqa s k) (zqn s k) (3 ^ zqn s k)), lN (zlP (zqa s k) (fun i => zsz (zly s M 5).1 (zqa s k i)) (zqn s k) (3 ^ zqn s k)), ?_, ec, Or.inr ⟨_, rfl, rfl⟩, Or.inr ⟨rfl, hn, hw'⟩⟩
    show ((zap (fX4_refresh K fa hd bc bs rtt) q w fr g re fi rt im).bind _) = _
    rw [er, Option.bind_some, zX9_query hk, Option.bind_some, if_pos hk, (hq5 k hk).1]
    show ((fX3_weighAll K (qc k) (nI (zqn s k)) w' sz lh lp).bind fun q35 => some ((Sum.inr q35.2.2 : Nat ⊕ Int64), zgr q' w' fr' g' re' fi' rt' 1 (q35.1, q35.2.1, q35.2.2))) = _
    rw [ew, Option.bind_some]
  · unfold zapg fX11_bound fX12_bound fX12_fails
    rw [e1, e2, Option.bind_some, Option.bind_some, if_pos (show bI false = 0 from rfl)]
    exact ⟨.inl 0, ((0 : Int32).toInt64, 1), q, w, fr, g, re, fi, rt, im, sz, lh, lp, rfl, rfl, Or.inl ⟨0, by decide, rfl, rfl⟩, Or.inl ⟨rfl, rfl, rfl, rfl, rfl, rfl⟩⟩
