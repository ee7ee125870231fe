/-! the calls that look at a query -/
theorem zqP_R {R R' : Nat → Nat → Bool} (h : zeqR R R') {s : Nat → Nat} {q : Nat} (hQ : zQ s q) : zqP R s q = zqP R' s q := by
  funext y
  unfold zqP zans zfa
  have : zall (fun i => R (zqa s q i).1 (zaR (zqa s q i) (fun v => zext (zqpl s q) (zqc s q) 0 z0 y v % 8))) (zqn s q) = zall (fun i => R' (zqa s q i).1 (zaR (zqa s q i) (fun v => zext (zqpl s q) (zqc s q) 0 z0 y v % 8))) (zqn s q) := zall_cong (fun i hi => h _ _ (hQ.2 i hi).1 (zaR_lt _ (fun v _ => Nat.mod_lt _ (by decide)) (hQ.2 i hi)))
  rw [this]
def zgN (s : Nat → Nat) (i : Nat) : Int32 := nI (s i)
def zgR (R : Nat → Nat → Bool) (i : Nat) : Int32 := bI (R (i / 512) (i % 512))
def zgV (_ : Nat) : Int32 := 0
theorem zgR_ok (R : Nat → Nat → Bool) : zMr (zgR R) R := by
  intro t k _ hk
  unfold zgR
  rw [show (512 * t + k) / 512 = t by omega, show (512 * t + k) % 512 = k by omega]
theorem zgV_ok : ∃ val, zMv zgV val := ⟨fun _ => 0, fun _ _ => ⟨rfl, show 0 < 8 by decide⟩⟩
theorem zgN_ok {s : Nat → Nat} (h : zBd s) : zM (zgN s) s := fun i hi => ⟨rfl, h i hi⟩
/-- refresh and look -/
theorem zd_see (K : Nat) (hK : 1000000 < K) {wd : Nat → Int32} {fa : Nat → Int64} {od hd : Nat → Int32} {qc : Nat → Nat → Int32} {qs : Nat → Int32} {bc : Nat → Nat → Int32} {bs : Nat → Int32} {tt rt : Int32} {H : zH12} {w : Nat → Int64} {g re fi : Nat → Int32} {ro im : Int32} {r : zR15} {ff : Int32} {s : Nat → Nat} {L : List (Nat → Nat)} (h : zIk wd fa od hd qc qs bc bs tt rt H w g re fi ro im r ff s L) (q : zR13) (fr : Nat → Int64) {k : Nat} (hk : k < 4) :
    ∃ q' w' fr' g' re' fi' rt' r', zap (fX4_refresh K fa hd bc bs rt) q w fr g re fi ro im = some (zrs q' w' fr' g' re' fi' rt' 1) ∧ zapr (fX11_look K od qc qs w' (nI k)) r ff = some (zpf r' (nI k)) ∧ zIk wd fa od hd qc qs bc bs tt rt H w' g' re' fi' rt' 1 r' (nI k) s L ∧ zFd (zw w') (zqa s k) (zqn s k) (zqpl s k) (zqc s k) r' ∧ zqP (zw w') s k = zqP (zRw s) s k ∧ zeqR (zw w') (zRw s) := by
  have h0 := h
  obtain ⟨hW, hB, hS, hH, hg, hff⟩ := h
  have hS : zSR wd fa od hd qc qs bc bs tt rt s := hS
  obtain ⟨q', w', fr', g', re', fi', rt', r', er, el, hga, hfo, _, hfd, hz⟩ := zSee K hK hW (zMs_ok hW).1 (zMs_ok hW).2 hS.2.1 hS.2.2.1 hS.2.2.2.2.2 q w fr g re fi ro im hg (zgN_ok hB) (zgR_ok _) (layer := fun t => nI (zMs s t)) (fun t _ => rfl) rfl zgV_ok hS.2.2.2.1 hS.2.2.2.2.1 r ff hff hk
  exact ⟨q', w', fr', g', re', fi', rt', r', er, el, zIk_ga h0 hga hfo, hfd, zqP_R hz (hW.2.2.2.2.2.1 k hk).1, hz⟩
theorem zd_answers (K : Nat) (hK : 1000000 < K) {O : zObj} {s : Nat → Nat} {L : List (Nat → Nat)} (h : zIc O s L) {k : Nat} (hk : k < 4) : ∃ O', hX11_answers K O (nI k) = some (nI (zcnt (zqP (zRw s) s k) 4096), O') ∧ zIc O' s L := by
  obtain ⟨wd, fa, od, hd, qc, qs, bc, bs, tt, rt, H, q, w, fr, tr, g, re, fi, ro, im, r, pk, cz, lh, lp, se, md, ff⟩ := O
  obtain ⟨q', w', fr', g', re', fi', rt', r', er, el, hI, hfd, hqp, hz⟩ := zd_see K hK h q fr hk
  have ec : zapr (zapg (fX11_answers K fa od hd qc qs bc bs rt (nI k)) q w fr g re fi ro im) r ff = some (Sum.inr (nI (zcnt (zqP (zRw s) s k) 4096)), zgr q' w' fr' g' re' fi' rt' 1 (zpf r' (nI k))) := by
    unfold zapr zapg fX11_answers
    rw [zd_que hk, Option.bind_some]
    show ((zap (fX4_refresh K fa hd bc bs rt) q w fr g re fi ro im).bind _) = _
    rw [er, Option.bind_some]
    show ((zapr (fX11_look K od qc qs w' (nI k)) r ff).bind _) = _
    rw [el, Option.bind_some]
    show some ((Sum.inr r'.2.2.2.2.2.2.2.2.2.2.2.2.2.2 : Nat ⊕ Int32), zgr q' w' fr' g' re' fi' rt' 1 (zpf r' (nI k))) = _
    rw [hfd.2.2.2.2.2, ← hqp]
    rfl
  refine ⟨(wd, fa, od, hd, qc, qs, bc, bs, tt, rt, H, q', w', fr', tr, g', re', fi', rt', 1, r', pk, cz, lh, lp, se, md, nI k), ?_, hI⟩
  unfold hX11_answers
  show ((zapr (zapg (fX11_answers K fa od hd qc qs bc bs rt (nI k)) q w fr g re fi ro im) r ff).bind _) = _
  rw [ec, Option.bind_some]
  rfl
theorem zd_leaps (K : Nat) (hK : 1000000 < K) {O : zObj} {s : Nat → Nat} {L : List (Nat → Nat)} (h : zIc O s L) {k : Nat} (hk : k < 4) : ∃ O' R, zeqR R (zRw s) ∧ hX11_leaps K O (nI k) = some (nI (zlp R (zqa s k) (zqn s k) (zqpl s k) (zqc s k)), O') ∧ zIc O' s L := by
  obtain ⟨wd, fa, od, hd, qc, qs, bc, bs, tt, rt, H, q, w, fr, tr, g, re, fi, ro, im, r, pk, cz, lh, lp, se, md, ff⟩ := O
  obtain ⟨q', w', fr', g', re', fi', rt', r', er, el, hI, hfd, hqp, hz⟩ := zd_see K hK h q fr hk
  have ec : zapr (zapg (fX11_leaps K fa od hd qc qs bc bs rt (nI k)) q w fr g re fi ro im) r ff = some (Sum.inr (nI (zlp (zw w') (zqa s k) (zqn s k) (zqpl s k) (zqc s k))), zgr q' w' fr' g' re' fi' rt' 1 (zpf r' (nI k))) := by
    unfold zapr zapg fX11_leaps
    rw [zd_que hk, Option.bind_some]
    show ((zap (fX4_refresh K fa hd bc bs rt) q w fr g re fi ro im).bind _) = _
    rw [er, Option.bind_some]
    show ((zapr (fX11_look K od qc qs w' (nI k)) r ff).bind _) = _
    rw [el, Option.bind_some]
    show some ((Sum.inr r'.2.2.2.2.2.2.2.2.2.2.1 : Nat ⊕ Int32), zgr q' w' fr' g' re' fi' rt' 1 (zpf r' (nI k))) = _
    rw [hfd.2.2.2.1]
  refine ⟨(wd, fa, od, hd, qc, qs, bc, bs, tt, rt, H, q', w', fr', tr, g', re', fi', rt', 1, r', pk, cz, lh, lp, se, md, nI k), zw w', hz, ?_, hI⟩
  unfold hX11_leaps
  show ((zapr (zapg (fX11_leaps K fa od hd qc qs bc bs rt (nI k)) q w fr g re fi ro im) r ff).bind _) = _
  rw [ec, Option.bind_some]
  rfl
/-- a variable of a query -/
theorem zd_stands (K : Nat) (hK : 5 < K) {s : Nat → Nat} (hW : zWF s) {qc : Nat → Nat → Int32} {qs : Nat → Int32} (hq5 : ∀ q, q < 4 → qs q = nI (zqn s q) ∧ zL (qc q) (zqn s q) (zqa s q) (fun _ => false)) {q v : Nat} (hq : q < 4) (hv : v < 4) (hs : zany (fun i => zaH (zqa s q i) v) (zqn s q) = true) : fX11_needStanding K qc qs (nI q) (nI v) = some (.inr (), ()) := by
  obtain ⟨h1, h2, h3⟩ := hW.2.2.2.2.2.1 q hq
  obtain ⟨b1, b2⟩ := hq5 q hq
  have hB := zqv_lt h1
  have hvar2 : fX2_variables K (qc q) (nI (zqn s q)) (0 : Int32) = some (nI (zqv s q)) := zX2_variables K hK b2 false
  have hq0 : (nI (zqv s q) &&& ((1 : Int32) <<< (nI v &&& 31)) = 0) = (zany (fun i => zaH (zqa s q i) v) (zqn s q) = false) := by
    have := zst16 ⟨zqv s q, hB⟩ ⟨v, by omega⟩
    rw [zqv_bit h1 hv] at this
    exact this
  unfold fX11_needStanding
  rw [if_neg (nI_pos (by omega)), if_pos (show nI v < (4 : Int32) by rw [show (4 : Int32) = nI 4 from rfl, zi_lt (by omega) (by omega)]; exact hv), zX9_query hq, Option.bind_some, if_pos hq, b1, hvar2, Option.bind_some]
  exact if_neg (fun g => by rw [hq0, hs] at g; cases g)
theorem zd_val {x : Nat} (hx : x < 8) : fX11_isValue (nI x) = some true := by
  unfold fX11_isValue
  rw [if_neg (nI_pos (by omega)), if_neg (by rw [show (8 : Int32) = nI 8 from rfl, zi_le (by omega) (by omega)]; omega)]
theorem zd_groupSize (K : Nat) (hK : 1000000 < K) {O : zObj} {s : Nat → Nat} {L : List (Nat → Nat)} (h : zIc O s L) {k v x : Nat} (hk : k < 4) (hv : v < 4) (hs : zany (fun i => zaH (zqa s k i) v) (zqn s k) = true) (hx : x < 8) : ∃ O', hX11_groupSize K O (nI k) (nI v) (nI x) = some (nI (zcnt (fun y => zqP (zRw s) s k y && decide (zvy s k y v = x)) 4096), O') ∧ zIc O' s L := by
  obtain ⟨wd, fa, od, hd, qc, qs, bc, bs, tt, rt, H, q, w, fr, tr, g, re, fi, ro, im, r, pk, cz, lh, lp, se, md, ff⟩ := O
  obtain ⟨q', w', fr', g', re', fi', rt', r', er, el, hI, hfd, hqp, hz⟩ := zd_see K hK h q fr hk
  obtain ⟨hW, hB, hS, hH, hg, hff⟩ := h
  have hS : zSR wd fa od hd qc qs bc bs tt rt s := hS
  obtain ⟨pk', hsz⟩ := zX0_sizeWith K (by omega) (w := r'.2.2.2.2.2.2.2.2.2.2.2.2.2.1) (seq := r'.2.2.1) hfd.1 hfd.2.1 (P := zqP (zw w') s k) (fun y hy => hfd.2.2.2.2.1 y hy) hv hx pk
  have hsz' : fX0_sizeWith K r'.2.2.1 r'.2.2.2.2.2.2.2.2.1 r'.2.2.2.2.2.2.2.2.2.2.2.2.2.1 r'.2.2.2.2.2.2.2.2.2.2.2.2.2.2 (nI v) (nI x) pk = some (nI (zcnt (fun y => zqP (zw w') s k y && decide (zvy s k y v = x)) 4096), pk') := by
    rw [hfd.2.2.1, hfd.2.2.2.2.2]; exact hsz
  rw [hqp] at hsz'
  have cls : ∀ {pp : Int32} {x : (Nat ⊕ Unit) × Unit}, fX11_needStanding K qc qs (nI k) pp = some x → ∀ f1 f2, ((fX11_needStanding K qc qs (nI k) pp).bind fun q8 => q8.1.elim f1 f2 : Option ((Nat ⊕ Int32) × zR20p)) = x.1.elim f1 f2 := by
    intro pp x hx f1 f2
    rw [hx]; rfl
  have e3 := zd_stands K (by omega) hW hS.2.2.2.2.1 hk hv hs
  have ec : zapr (zapg (fX11_groupSize K fa od hd qc qs bc bs rt (nI k) (nI v) (nI x)) q w fr g re fi ro im) r pk ff = some (Sum.inr (nI (zcnt (fun y => zqP (zRw s) s k y && decide (zvy s k y v = x)) 4096)), zgr q' w' fr' g' re' fi' rt' 1 (zpf r' (pk', nI k))) := by
    unfold zapr zapg fX11_groupSize
    rw [zd_que hk, Option.bind_some]
    refine (cls e3 _ _).trans ?_
    show ((fX11_isValue (nI x)).bind _) = _
    rw [zd_val hx, Option.bind_some, if_neg (show ¬ bI true = 0 by decide)]
    show ((zap (fX4_refresh K fa hd bc bs rt) q w fr g re fi ro im).bind _) = _
    rw [er, Option.bind_some]
    show ((zapr (fX11_look K od qc qs w' (nI k)) r ff).bind _) = _
    rw [el, Option.bind_some]
    show ((fX0_sizeWith K r'.2.2.1 r'.2.2.2.2.2.2.2.2.1 r'.2.2.2.2.2.2.2.2.2.2.2.2.2.1 r'.2.2.2.2.2.2.2.2.2.2.2.2.2.2 (nI v) (nI x) pk).bind fun q51 => some ((Sum.inr q51.1 : Nat ⊕ Int32), zgr q' w' fr' g' re' fi' rt' 1 (zpf r' (q51.2, nI k)))) = _
    rw [hsz', Option.bind_some]
  refine ⟨(wd, fa, od, hd, qc, qs, bc, bs, tt, rt, H, q', w', fr', tr, g', re', fi', rt', 1, r', pk', cz, lh, lp, se, md, nI k), ?_, hI⟩
  unfold hX11_groupSize
  show ((zapr (zapg (fX11_groupSize K fa od hd qc qs bc bs rt (nI k) (nI v) (nI x)) q w fr g re fi ro im) r pk ff).bind _) = _
  rw [ec, Option.bind_some]
  rfl
theorem zd_groups (K : Nat) (hK : 1000000 < K) {O : zObj} {s : Nat → Nat} {L : List (Nat → Nat)} (h : zIc O s L) {k v : Nat} (hk : k < 4) (hv : v < 4) (hs : zany (fun i => zaH (zqa s k i) v) (zqn s k) = true) : ∃ O', hX11_groups K O (nI k) (nI v) = some (nI (zcnt (fun x => zany (fun y => zqP (zRw s) s k y && decide (zvy s k y v = x)) 4096) 8), O') ∧ zIc O' s L := by
  obtain ⟨wd, fa, od, hd, qc, qs, bc, bs, tt, rt, H, q, w, fr, tr, g, re, fi, ro, im, r, pk, cz, lh, lp, se, md, ff⟩ := O
  obtain ⟨q', w', fr', g', re', fi', rt', r', er, el, hI, hfd, hqp, hz⟩ := zd_see K hK h q fr hk
  obtain ⟨hW, hB, hS, hH, hg, hff⟩ := h
  have hS : zSR wd fa od hd qc qs bc bs tt rt s := hS
  obtain ⟨pk', hgr⟩ := zX11_groups32 K (by omega) fa od hd qc qs bc bs rt hv q' w' fr' g' re' fi' rt' 1 r' pk (nI k) (nI k) hfd
  rw [hqp] at hgr
  have cls : ∀ {pp : Int32} {x : (Nat ⊕ Unit) × Unit}, fX11_needStanding K qc qs (nI k) pp = some x → ∀ f1 f2, ((fX11_needStanding K qc qs (nI k) pp).bind fun q8 => q8.1.elim f1 f2 : Option ((Nat ⊕ Int32) × zR20p)) = x.1.elim f1 f2 := by
    intro pp x hx f1 f2
    rw [hx]; rfl
  have e3 := zd_stands K (by omega) hW hS.2.2.2.2.1 hk hv hs
  have ec : zapr (zapg (fX11_groups K fa od hd qc qs bc bs rt (nI k) (nI v)) q w fr g re fi ro im) r pk ff = some (Sum.inr (nI (zcnt (fun x => zany (fun y => zqP (zRw s) s k y && decide (zvy s k y v = x)) 4096) 8)), zgr q' w' fr' g' re' fi' rt' 1 (zpf r' (pk', nI k))) := by
    unfold zapr zapg fX11_groups
    rw [zd_que hk, Option.bind_some]
    refine (cls e3 _ _).trans ?_
    show ((zap (fX4_refresh K fa hd bc bs rt) q w fr g re fi ro im).bind _) = _
    rw [er, Option.bind_some]
    show ((zapr (fX11_look K od qc qs w' (nI k)) r ff).bind _) = _
    rw [el, Option.bind_some]
    exact hgr
  refine ⟨(wd, fa, od, hd, qc, qs, bc, bs, tt, rt, H, q', w', fr', tr, g', re', fi', rt', 1, r', pk', cz, lh, lp, se, md, nI k), ?_, hI⟩
  unfold hX11_groups
  show ((zapr (zapg (fX11_groups K fa od hd qc qs bc bs rt (nI k) (nI v)) q w fr g re fi ro im) r pk ff).bind _) = _
  rw [ec, Option.bind_some]
  rfl
theorem zd_answerAt (K : Nat) (hK : 1000000 < K) {O : zObj} {s : Nat → Nat} {L : List (Nat → Nat)} (h : zIc O s L) {k v n : Nat} (hk : k < 4) (hv : v < 4) (hs : zany (fun i => zaH (zqa s k i) v) (zqn s k) = true) (hn : n < zcnt (zqP (zRw s) s k) 4096) : ∃ O' y, y < 4096 ∧ zqP (zRw s) s k y = true ∧ zcnt (zqP (zRw s) s k) y = n ∧ hX11_answerAt K O (nI k) (nI n) (nI v) = some (nI (zvy s k y v), O') ∧ zIc O' s L := by
  obtain ⟨wd, fa, od, hd, qc, qs, bc, bs, tt, rt, H, q, w, fr, tr, g, re, fi, ro, im, r, pk, cz, lh, lp, se, md, ff⟩ := O
  obtain ⟨q', w', fr', g', re', fi', rt', r', er, el, hI, hfd, hqp, hz⟩ := zd_see K hK h q fr hk
  obtain ⟨hW, hB, hS, hH, hg, hff⟩ := h
  have hS : zSR wd fa od hd qc qs bc bs tt rt s := hS
  have hcl := zcnt_le (zqP (zRw s) s k) 4096
  have hq14 : r'.2.2.2.2.2.2.2.2.2.2.2.2.2.2 = nI (zcnt (zqP (zRw s) s k) 4096) := by rw [← hqp]; exact hfd.2.2.2.2.2
  rw [← hqp] at hn
  obtain ⟨y, pk', z1, z2, z3, ez⟩ := zX11_answerAt59 K (by omega) fa od hd qc qs bc bs rt hv hn q' w' fr' g' re' fi' rt' 1 r' pk (nI k) (nI k) hfd
  rw [hqp] at z2 z3 hn
  have cls : ∀ {pp : Int32} {x : (Nat ⊕ Unit) × Unit}, fX11_needStanding K qc qs (nI k) pp = some x → ∀ f1 f2, ((fX11_needStanding K qc qs (nI k) pp).bind fun q8 => q8.1.elim f1 f2 : Option ((Nat ⊕ Int32) × zR20p)) = x.1.elim f1 f2 := by
    intro pp x hx f1 f2
    rw [hx]; rfl
  have e3 := zd_stands K (by omega) hW hS.2.2.2.2.1 hk hv hs
  have ec : zapr (zapg (fX11_answerAt K fa od hd qc qs bc bs rt (nI k) (nI n) (nI v)) q w fr g re fi ro im) r pk ff = some (Sum.inr (nI (zvy s k y v)), zgr q' w' fr' g' re' fi' rt' 1 (zpf r' (pk', nI k))) := by
    unfold zapr zapg fX11_answerAt
    rw [zd_que hk, Option.bind_some]
    refine (cls e3 _ _).trans ?_
    show ((zap (fX4_refresh K fa hd bc bs rt) q w fr g re fi ro im).bind _) = _
    rw [er, Option.bind_some]
    show ((zapr (fX11_look K od qc qs w' (nI k)) r ff).bind _) = _
    rw [el, Option.bind_some, if_neg (nI_pos (by omega))]
    show (if nI n < r'.2.2.2.2.2.2.2.2.2.2.2.2.2.2 then zapr (zapg (fX11_answerAt_59 K fa od hd qc qs bc bs rt (nI k) (nI n) (nI v) K (-1) 0) q' w' fr' g' re' fi' rt' 1) r' pk (nI k) else _) = _
    rw [hq14, if_pos (by rw [zi_lt (by omega) (by omega)]; exact hn)]
    exact ez
  refine ⟨(wd, fa, od, hd, qc, qs, bc, bs, tt, rt, H, q', w', fr', tr, g', re', fi', rt', 1, r', pk', cz, lh, lp, se, md, nI k), y, z1, z2, z3, ?_, hI⟩
  unfold hX11_answerAt
  show ((zapr (zapg (fX11_answerAt K fa od hd qc qs bc bs rt (nI k) (nI n) (nI v)) q w fr g re fi ro im) r pk ff).bind _) = _
  rw [ec, Option.bind_some]
  rfl
theorem zd_seek (K : Nat) (hK : 1000000 < K) {O : zObj} {s : Nat → Nat} {L : List (Nat → Nat)} (h : zIc O s L) {k a b d f : Nat} (hk : k < 4) (ha : a < 8) (hb : b < 8) (hd' : d < 8) (hf : f < 8) (hlt : zcnt (zqP (zRw s) s k) ((512 * a + 64 * b + 8 * d + f) / 8 ^ (4 - zqc s k)) < zcnt (zqP (zRw s) s k) 4096) : ∃ O', hY11_seek K O (nI k) (nI a) (nI b) (nI d) (nI f) = some (nI (zcnt (zqP (zRw s) s k) ((512 * a + 64 * b + 8 * d + f) / 8 ^ (4 - zqc s k))), O') ∧ zIc O' s L := by
  obtain ⟨wd, fa, od, hd, qc, qs, bc, bs, tt, rt, H, q, w, fr, tr, g, re, fi, ro, im, r, pk, cz, lh, lp, se, md, ff⟩ := O
  obtain ⟨q', w', fr', g', re', fi', rt', r', er, el, hI, hfd, hqp, hz⟩ := zd_see K hK h q fr hk
  obtain ⟨hW, hB, hS, hH, hg, hff⟩ := h
  have hS : zSR wd fa od hd qc qs bc bs tt rt s := hS
  have hkey := zX0_keyOf (zqc_le s k) ha hb hd' hf
  have hbb : (512 * a + 64 * b + 8 * d + f) / 8 ^ (4 - zqc s k) ≤ 4096 := Nat.le_trans (Nat.div_le_self _ _) (by omega)
  have hq14 : r'.2.2.2.2.2.2.2.2.2.2.2.2.2.2 = nI (zcnt (zqP (zw w') s k) 4096) := hfd.2.2.2.2.2
  have hbf := zX0_countBelow K (by omega) (w := r'.2.2.2.2.2.2.2.2.2.2.2.2.2.1) (P := zqP (zw w') s k) (fun y hy => hfd.2.2.2.2.1 y hy) hbb
  rw [hqp] at hq14 hbf
  have hcl := zcnt_le (zqP (zRw s) s k) 4096
  have hcb := zcnt_le (zqP (zRw s) s k) ((512 * a + 64 * b + 8 * d + f) / 8 ^ (4 - zqc s k))
  have ec : zapr (zapg (fX11_seek K fa od hd qc qs bc bs rt (nI k) (nI a) (nI b) (nI d) (nI f)) q w fr g re fi ro im) r ff = some (Sum.inr (nI (zcnt (zqP (zRw s) s k) ((512 * a + 64 * b + 8 * d + f) / 8 ^ (4 - zqc s k)))), zgr q' w' fr' g' re' fi' rt' 1 (zpf r' (nI k))) := by
    unfold zapr zapg fX11_seek
    rw [zd_que hk, Option.bind_some]
    show ((fX11_isValue (nI a)).bind _) = _
    rw [zd_val ha, Option.bind_some, if_neg (show ¬ bI true = 0 by decide), zd_val hb, Option.bind_some, if_neg (show ¬ bI true = 0 by decide), zd_val hd', Option.bind_some, if_neg (show ¬ bI true = 0 by decide), zd_val hf, Option.bind_some, if_neg (show ¬ bI true = 0 by decide)]
    show ((zap (fX4_refresh K fa hd bc bs rt) q w fr g re fi ro im).bind _) = _
    rw [er, Option.bind_some]
    show ((zapr (fX11_look K od qc qs w' (nI k)) r ff).bind _) = _
    rw [el, Option.bind_some]
    show ((fX0_keyOf r'.2.2.2.2.2.2.2.2.1 (nI a) (nI b) (nI d) (nI f)).bind fun q72 => (fX0_countBelow K r'.2.2.2.2.2.2.2.2.2.2.2.2.2.1 r'.2.2.2.2.2.2.2.2.2.2.2.2.2.2 q72).bind fun q83 => if q83 < r'.2.2.2.2.2.2.2.2.2.2.2.2.2.2 then some ((Sum.inr q83 : Nat ⊕ Int32), zgr q' w' fr' g' re' fi' rt' 1 (zpf r' (nI k))) else some (Sum.inl 3, zgr q' w' fr' g' re' fi' rt' 1 (zpf r' (nI k)))) = _
    rw [hfd.2.2.1, hkey, Option.bind_some, hq14, hbf, Option.bind_some, if_pos (by rw [zi_lt (by omega) (by omega)]; exact hlt)]
  refine ⟨(wd, fa, od, hd, qc, qs, bc, bs, tt, rt, H, q', w', fr', tr, g', re', fi', rt', 1, r', pk, cz, lh, lp, se, md, nI k), ?_, hI⟩
  unfold hY11_seek
  show ((zapr (zapg (fX11_seek K fa od hd qc qs bc bs rt (nI k) (nI a) (nI b) (nI d) (nI f)) q w fr g re fi ro im) r ff).bind _) = _
  rw [ec, Option.bind_some]
  rfl
