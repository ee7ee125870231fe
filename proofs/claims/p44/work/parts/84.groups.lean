/-! calls of a query: groups, the size of a group, an answer -/
theorem zcnt_no {p : Nat → Bool} : ∀ n, (zcnt p n ≤ 0) ↔ zany p n = false := by
  intro n
  constructor
  · intro h
    cases e : zany p n
    · rfl
    · obtain ⟨i, hi, hp⟩ := zany_iff.1 e
      have := zcnt_mono p (show i + 1 ≤ n by omega)
      rw [zcnt_s, hp] at this
      have e1 : (true).toNat = 1 := rfl
      omega
  · intro h
    have : zcnt p n = zcnt p 0 := zcnt_flat (Nat.zero_le n) (fun i _ h2 => by
      cases e : p i
      · rfl
      · rw [zany_iff.2 ⟨i, h2, e⟩] at h; cases h)
    rw [this, zcnt_0]; exact Nat.le_refl 0
abbrev zR20p := (Nat → Int32) × Int32 × (Nat → Int32) × (Nat → Int32) × (Nat → Int32) × (Nat → Int32) × (Nat → Int32) × (Nat → Int32) × Int32 × Int32 × Int32 × Int32 × Int32 × (Nat → Int64) × (Nat → Int64) × (Nat → Int32) × (Nat → Int32) × (Nat → Int32) × Int32 × Int32 × (Nat → Int32) × Int32 × (Nat → Int32) × (Nat → Int32) × (Nat → Int32) × (Nat → Int32) × (Nat → Int32) × (Nat → Int32) × Int32 × Int32 × Int32 × Int32 × Int32 × (Nat → Int64) × Int32 × Int32 × Int32
theorem zX11_groups32 (K : Nat) (hK : 4096 < K) (fa : Nat → Int64) (od hd : Nat → Int32) (qc : Nat → Nat → Int32) (qs : Nat → Int32) (bc : Nat → Nat → Int32) (bs : Nat → Int32) (rtt : Int32) {s : Nat → Nat} {k v : Nat} (hv : v < 4) {R : Nat → Nat → Bool} (q : zR13) (w fr : Nat → Int64) (g re fi : Nat → Int32) (rt im : Int32) (r : zR15) (pk ff p1 : Int32) (hfd : zFd R (zqa s k) (zqn s k) (zqpl s k) (zqc s k) r) :
    ∃ pk', zapr (zapg (fX11_groups_32 K fa od hd qc qs bc bs rtt p1 (nI v) K 0 0) q w fr g re fi rt im) r pk ff = some (Sum.inr (nI (zcnt (fun x => zany (fun y => zqP R s k y && decide (zvy s k y v = x)) 4096) 8)), zgr q w fr g re fi rt im (zpf r (pk', ff))) := by
  have e8 : (8 : Int32) = nI 8 := rfl
  obtain ⟨_, ⟨pk', rfl⟩, e⟩ := z_for (F := fun n i (pk : Int32) => zapr (zapg (fX11_groups_32 K fa od hd qc qs bc bs rtt p1 (nI v) n (nI (zcnt (fun x => zany (fun y => zqP R s k y && decide (zvy s k y v = x)) 4096) i)) (nI i)) q w fr g re fi rt im) r pk ff) (n := 8) (inv := fun _ _ => True) (post := fun o => ∃ pk', o = (Sum.inr (nI (zcnt (fun x => zany (fun y => zqP R s k y && decide (zvy s k y v = x)) 4096) 8)), zgr q w fr g re fi rt im (zpf r (pk', ff))))
    (by
      intro n i pk hi _
      left
      obtain ⟨pk', hsz⟩ := zX0_sizeWith K hK (w := r.2.2.2.2.2.2.2.2.2.2.2.2.2.1) (seq := r.2.2.1) hfd.1 hfd.2.1 (P := zqP R s k) (fun y hy => hfd.2.2.2.2.1 y hy) hv hi pk
      refine ⟨pk', trivial, ?_⟩
      show (if (8 : Int32) ≤ nI i then _ else ((fX0_sizeWith K r.2.2.1 r.2.2.2.2.2.2.2.2.1 r.2.2.2.2.2.2.2.2.2.2.2.2.2.1 r.2.2.2.2.2.2.2.2.2.2.2.2.2.2 (nI v) (nI i) pk).bind fun q47 => if q47.1 ≤ 0 then zapr (zapg (fX11_groups_32 K fa od hd qc qs bc bs rtt p1 (nI v) n (nI (zcnt (fun x => zany (fun y => zqP R s k y && decide (zvy s k y v = x)) 4096) i) + (0 : Int32)) (nI i + (1 : Int32))) q w fr g re fi rt im) r q47.2 ff else zapr (zapg (fX11_groups_32 K fa od hd qc qs bc bs rtt p1 (nI v) n (nI (zcnt (fun x => zany (fun y => zqP R s k y && decide (zvy s k y v = x)) 4096) i) + (1 : Int32)) (nI i + (1 : Int32))) q w fr g re fi rt im) r q47.2 ff)) = _
      have hsz' : fX0_sizeWith K r.2.2.1 r.2.2.2.2.2.2.2.2.1 r.2.2.2.2.2.2.2.2.2.2.2.2.2.1 r.2.2.2.2.2.2.2.2.2.2.2.2.2.2 (nI v) (nI i) pk = some (nI (zcnt (fun y => zqP R s k y && decide (zvy s k y v = i)) 4096), pk') := by
        rw [hfd.2.2.1, hfd.2.2.2.2.2]; exact hsz
      have hle := zcnt_le (fun y => zqP R s k y && decide (zvy s k y v = i)) 4096
      rw [if_neg (show ¬ (8 : Int32) ≤ nI i by rw [e8, zi_le (by omega) (by omega)]; omega), hsz', Option.bind_some, nI_succ]
      show (if nI (zcnt (fun y => zqP R s k y && decide (zvy s k y v = i)) 4096) ≤ 0 then _ else _) = zapr (zapg (fX11_groups_32 K fa od hd qc qs bc bs rtt p1 (nI v) n (nI (zcnt (fun x => zany (fun y => zqP R s k y && decide (zvy s k y v = x)) 4096) i + (zany (fun y => zqP R s k y && decide (zvy s k y v = i)) 4096).toNat)) (nI i + (1 : Int32))) q w fr g re fi rt im) r pk' ff
      have hno := zcnt_no (p := fun y => zqP R s k y && decide (zvy s k y v = i)) 4096
      cases ea : zany (fun y => zqP R s k y && decide (zvy s k y v = i)) 4096
      · rw [if_pos (by rw [show (0 : Int32) = nI 0 from rfl, zi_le (by omega) (by omega)]; exact hno.2 ea)]
        rw [show (0 : Int32) = nI 0 from rfl, zi_add]; rfl
      · rw [if_neg (by rw [show (0 : Int32) = nI 0 from rfl, zi_le (by omega) (by omega)]; intro h; rw [hno.1 h] at ea; cases ea)]
        rw [show (true).toNat = 1 from rfl, nI_succ])
    (by
      intro n pk _
      refine ⟨_, ⟨pk, rfl⟩, ?_⟩
      rfl) 8 K 0 pk (by omega) trivial (by omega)
  exact ⟨pk', e⟩
theorem zc_groupSize (K : Nat) (hK : 1000000 < K) {s : Nat → Nat} (hW : zWF s) {M : Nat → Nat} (hM : zLst (zE s) M) (hM4 : ∀ t, t < 5 → M t ≤ 4) {wd : Nat → Int32} (hwd : ∀ t, t < s 0 → wd t = nI (s (1 + t))) {fa : Nat → Int64} {hd : Nat → Int32} {bc : Nat → Nat → Int32} {bs : Nat → Int32} {rtt : Int32} (hfa : zeqR (zw fa) (zfacts s)) (hR : zRc hd bc bs rtt s) (q : zR13) (w fr : Nat → Int64) (g re fi : Nat → Int32) (rt im : Int32) (hg : im = 0 ∨ im = 1 ∧ zGn s M w g re fi rt) {now row layer value : Nat → Int32} {rounds : Int32} (hm : zM now s) (hrow : zMr row (zly s M 5).1) (hl : ∀ t, t < 5 → layer t = nI (M t)) (hro : rounds = nI (zly s M 5).2) (hval : ∃ val, zMv value val) {od : Nat → Int32} (hod : ∀ q, q < 4 → od q = nI (zqo s q)) {qc : Nat → Nat → Int32} {qs : Nat → Int32} (hq5 : ∀ q, q < 4 → qs q = nI (zqn s q) ∧ zL (qc q) (zqn s q) (zqa s q) (fun _ => false)) (r : zR15) (ff : Int32) (hff : zFo s w im r ff) (p p2 p3 th pk : Int32) (place : Nat → Int32) (places : Int32) :
    ∃ e b q' w' fr' g' re' fi' rt' im' r' pk' ff' value' place' places', zapr (zapg (fX11_groupSize K fa od hd qc qs bc bs rtt p p2 p3) q w fr g re fi rt im) r pk ff = some (e, zgr q' w' fr' g' re' fi' rt' im' (zpf r' (pk', ff'))) ∧ fX12_groupSize K now row p p2 p3 th value place places = some (b.1, b.2, value', place', places') ∧ (∃ val, zMv value' val) ∧ zAg [0, 1] 0 e b ∧ zGa s M w g re fi rt im w' g' re' fi' rt' im' ∧ zFo s w' im' r' ff' := by
  unfold zapr zapg fX11_groupSize fX12_groupSize fX12_groupSize_21 fX12_fails
  rcases zC_query p with ⟨k, hk, rfl, e1, e2⟩ | ⟨e1, e2⟩
  · obtain ⟨q', w', fr', g', re', fi', rt', r', er, el, hga, hfo, hrow', hfd, hz⟩ := zSee K hK hW hM hM4 hwd hfa hR q w fr g re fi rt im hg hm hrow hl hro hval hod hq5 r ff hff hk
    obtain ⟨h1, h2, h3⟩ := hW.2.2.2.2.2.1 k hk
    have cls : ∀ {pp : Int32} {x : (Nat ⊕ Unit) × Unit}, fX11_needStanding K qc qs (nI k) pp = some x → ∀ f1 f2, ((fX11_needStanding K qc qs (nI k) pp).bind fun q8 => q8.1.elim f1 f2 : Option ((Nat ⊕ Int32) × zR20p)) = x.1.elim f1 f2 := by
      intro pp x hx f1 f2
      rw [hx]; rfl
    rw [e1, e2, Option.bind_some, Option.bind_some, if_neg (show ¬ bI true = 0 by decide)]
    rcases zC_standing K (by omega) hm hW hq5 hk p2 with ⟨v, m, hv, rfl, hmc, hmv, e3, e4⟩ | ⟨e3, e4⟩
    · rw [e4, Option.bind_some, if_neg (show ¬ bI true = 0 by decide)]
      rcases zC_value p3 with ⟨x, hx, rfl, e5, e6⟩ | ⟨e5, e6⟩
      · obtain ⟨p', ep, hp⟩ := zX12_choices K (by omega) hm hk h1 h2 place places
        rw [e6, Option.bind_some, if_neg (show ¬ bI true = 0 by decide), ep, Option.bind_some]
        obtain ⟨v', ev, hv'⟩ := zX12_groupSizeL K (by omega) hm hrow' hk h1 h2 hp hmc hx hval 0
        rw [hmv] at ev
        obtain ⟨pk', hsz⟩ := zX0_sizeWith K (by omega) (w := r'.2.2.2.2.2.2.2.2.2.2.2.2.2.1) (seq := r'.2.2.1) hfd.1 hfd.2.1 (P := zqP (zw w') s k) (fun y hy => hfd.2.2.2.2.1 y hy) hv hx pk
        have hsz' : fX0_sizeWith K r'.2.2.1 r'.2.2.2.2.2.2.2.2.1 r'.2.2.2.2.2.2.2.2.2.2.2.2.2.1 r'.2.2.2.2.2.2.2.2.2.2.2.2.2.2 (nI v) (nI x) pk = some (nI (zcnt (fun y => zqP (zw w') s k y && decide (zvy s k y v = x)) 4096), pk') := by
          rw [hfd.2.2.1, hfd.2.2.2.2.2]; exact hsz
        refine ⟨.inr (nI (zcnt (fun y => zqP (zw w') s k y && decide (zvy s k y v = x)) 4096)), (_, 0), q', w', fr', g', re', fi', rt', 1, r', pk', nI k, v', p', nI (zqc s k), ?_, ev, hv', Or.inr ⟨_, rfl, rfl⟩, hga, hfo⟩
        refine (cls e3 _ _).trans ?_
        show ((fX11_isValue (nI x)).bind _) = _
        rw [e5, Option.bind_some, if_neg (show ¬ bI true = 0 by decide)]
        show ((zap (fX4_refresh K fa hd bc bs rtt) q w fr g re fi rt im).bind _) = _
        rw [er, Option.bind_some]
        show ((zapr (fX11_look K od qc qs w' (nI k)) r ff).bind _) = _
        rw [el, Option.bind_some]
        show ((fX0_sizeWith K r'.2.2.1 r'.2.2.2.2.2.2.2.2.1 r'.2.2.2.2.2.2.2.2.2.2.2.2.2.1 r'.2.2.2.2.2.2.2.2.2.2.2.2.2.2 (nI v) (nI x) pk).bind fun q51 => some ((Sum.inr q51.1 : Nat ⊕ Int32), zgr q' w' fr' g' re' fi' rt' 1 (zpf r' (q51.2, nI k)))) = _
        rw [hsz', Option.bind_some]
      · rw [e6, Option.bind_some, if_pos (show bI false = 0 from rfl)]
        refine ⟨.inl 1, (0, 2), q, w, fr, g, re, fi, rt, im, r, pk, ff, value, place, places, ?_, rfl, hval, Or.inl ⟨1, by decide, rfl, rfl⟩, Or.inl ⟨rfl, rfl, rfl, rfl, rfl, rfl⟩, hff⟩
        refine (cls e3 _ _).trans ?_
        show ((fX11_isValue p3).bind _) = _
        rw [e5, Option.bind_some, if_pos (show bI false = 0 from rfl)]
        rfl
    · rw [e4, Option.bind_some, if_pos (show bI false = 0 from rfl)]
      exact ⟨.inl 0, (0, 1), q, w, fr, g, re, fi, rt, im, r, pk, ff, value, place, places, cls e3 _ _, rfl, hval, Or.inl ⟨0, by decide, rfl, rfl⟩, Or.inl ⟨rfl, rfl, rfl, rfl, rfl, rfl⟩, hff⟩
  · rw [e1, e2, Option.bind_some, Option.bind_some, if_pos (show bI false = 0 from rfl)]
    exact ⟨.inl 0, (0, 1), q, w, fr, g, re, fi, rt, im, r, pk, ff, value, place, places, rfl, rfl, hval, Or.inl ⟨0, by decide, rfl, rfl⟩, Or.inl ⟨rfl, rfl, rfl, rfl, rfl, rfl⟩, hff⟩
theorem zc_groups (K : Nat) (hK : 1000000 < K) {s : Nat → Nat} (hW : zWF s) {M : Nat → Nat} (hM : zLst (zE s) M) (hM4 : ∀ t, t < 5 → M t ≤ 4) {wd : Nat → Int32} (hwd : ∀ t, t < s 0 → wd t = nI (s (1 + t))) {fa : Nat → Int64} {hd : Nat → Int32} {bc : Nat → Nat → Int32} {bs : Nat → Int32} {rtt : Int32} (hfa : zeqR (zw fa) (zfacts s)) (hR : zRc hd bc bs rtt s) (q : zR13) (w fr : Nat → Int64) (g re fi : Nat → Int32) (rt im : Int32) (hg : im = 0 ∨ im = 1 ∧ zGn s M w g re fi rt) {now row layer value : Nat → Int32} {rounds : Int32} (hm : zM now s) (hrow : zMr row (zly s M 5).1) (hl : ∀ t, t < 5 → layer t = nI (M t)) (hro : rounds = nI (zly s M 5).2) (hval : ∃ val, zMv value val) {od : Nat → Int32} (hod : ∀ q, q < 4 → od q = nI (zqo s q)) {qc : Nat → Nat → Int32} {qs : Nat → Int32} (hq5 : ∀ q, q < 4 → qs q = nI (zqn s q) ∧ zL (qc q) (zqn s q) (zqa s q) (fun _ => false)) (r : zR15) (ff : Int32) (hff : zFo s w im r ff) (p p2 th pk : Int32) (place : Nat → Int32) (places : Int32) :
    ∃ e b q' w' fr' g' re' fi' rt' im' r' pk' ff' value' place' places', zapr (zapg (fX11_groups K fa od hd qc qs bc bs rtt p p2) q w fr g re fi rt im) r pk ff = some (e, zgr q' w' fr' g' re' fi' rt' im' (zpf r' (pk', ff'))) ∧ fX12_groups K now row p p2 th value place places = some (b.1, b.2, value', place', places') ∧ (∃ val, zMv value' val) ∧ zAg [0] 0 e b ∧ zGa s M w g re fi rt im w' g' re' fi' rt' im' ∧ zFo s w' im' r' ff' := by
  unfold zapr zapg fX11_groups fX12_groups fX12_groups_21 fX12_fails
  rcases zC_query p with ⟨k, hk, rfl, e1, e2⟩ | ⟨e1, e2⟩
  · obtain ⟨q', w', fr', g', re', fi', rt', r', er, el, hga, hfo, hrow', hfd, hz⟩ := zSee K hK hW hM hM4 hwd hfa hR q w fr g re fi rt im hg hm hrow hl hro hval hod hq5 r ff hff hk
    obtain ⟨h1, h2, h3⟩ := hW.2.2.2.2.2.1 k hk
    have cls : ∀ {pp : Int32} {x : (Nat ⊕ Unit) × Unit}, fX11_needStanding K qc qs (nI k) pp = some x → ∀ f1 f2, ((fX11_needStanding K qc qs (nI k) pp).bind fun q8 => q8.1.elim f1 f2 : Option ((Nat ⊕ Int32) × zR20p)) = x.1.elim f1 f2 := by
      intro pp x hx f1 f2
      rw [hx]; rfl
    rw [e1, e2, Option.bind_some, Option.bind_some, if_neg (show ¬ bI true = 0 by decide)]
    rcases zC_standing K (by omega) hm hW hq5 hk p2 with ⟨v, m, hv, rfl, hmc, hmv, e3, e4⟩ | ⟨e3, e4⟩
    · obtain ⟨p', ep, hp⟩ := zX12_choices K (by omega) hm hk h1 h2 place places
      rw [e4, Option.bind_some, if_neg (show ¬ bI true = 0 by decide), ep, Option.bind_some]
      obtain ⟨v', ev, hv'⟩ := zX12_groupsL K (by omega) hm hrow' hk h1 h2 hp hmc hval 0
      rw [hmv] at ev
      obtain ⟨pk', hgr⟩ := zX11_groups32 K (by omega) fa od hd qc qs bc bs rtt hv q' w' fr' g' re' fi' rt' 1 r' pk (nI k) (nI k) hfd
      refine ⟨_, (_, 0), q', w', fr', g', re', fi', rt', 1, r', pk', nI k, v', p', nI (zqc s k), ?_, ev, hv', Or.inr ⟨_, rfl, rfl⟩, hga, hfo⟩
      refine (cls e3 _ _).trans ?_
      show ((zap (fX4_refresh K fa hd bc bs rtt) q w fr g re fi rt im).bind _) = _
      rw [er, Option.bind_some]
      show ((zapr (fX11_look K od qc qs w' (nI k)) r ff).bind _) = _
      rw [el, Option.bind_some]
      exact hgr
    · rw [e4, Option.bind_some, if_pos (show bI false = 0 from rfl)]
      exact ⟨.inl 0, (0, 1), q, w, fr, g, re, fi, rt, im, r, pk, ff, value, place, places, cls e3 _ _, rfl, hval, Or.inl ⟨0, by decide, rfl, rfl⟩, Or.inl ⟨rfl, rfl, rfl, rfl, rfl, rfl⟩, hff⟩
  · rw [e1, e2, Option.bind_some, Option.bind_some, if_pos (show bI false = 0 from rfl)]
    exact ⟨.inl 0, (0, 1), q, w, fr, g, re, fi, rt, im, r, pk, ff, value, place, places, rfl, rfl, hval, Or.inl ⟨0, by decide, rfl, rfl⟩, Or.inl ⟨rfl, rfl, rfl, rfl, rfl, rfl⟩, hff⟩
