/-! calls of a query: an answer, the first from a place on -/
theorem zaft (K : Nat) (hK : 4096 < K) {w : Nat → Int64} {P : Nat → Bool} (hP : ∀ y, y < 4096 → zkb w y = P y) {s : Nat} (hs : s ≤ 4096) (hlt : znk P s < 4096) : fX0_after K w (if s = 0 then -1 else nI (s - 1)) = some (nI (znk P s)) := by
  have hnk : ∀ k, k ≤ 4096 → znk (zkb w) k = znk P k := fun k hk => zlst_cong (fun y h1 h2 => hP y (by omega))
  by_cases h0 : s = 0
  · rw [if_pos h0, zX0_afterN K hK w, hnk 0 (by omega), h0]
    unfold zkr; rw [h0] at hlt; rw [if_pos hlt]
  · rw [if_neg h0, zX0_after K hK w (by omega), show s - 1 + 1 = s by omega, hnk s hs]
    unfold zkr; rw [if_pos hlt]
theorem zX11_answerAt59 (K : Nat) (hK : 5000 < K) (fa : Nat → Int64) (od hd : Nat → Int32) (qc : Nat → Nat → Int32) (qs : Nat → Int32) (bc : Nat → Nat → Int32) (bs : Nat → Int32) (rtt : Int32) {s : Nat → Nat} {k v n : Nat} (hv : v < 4) {R : Nat → Nat → Bool} (hn : n < zcnt (zqP R s k) 4096) (q : zR13) (w fr : Nat → Int64) (g re fi : Nat → Int32) (rt im : Int32) (r : zR15) (pk ff p1 : Int32) (hfd : zFd R (zqa s k) (zqn s k) (zqpl s k) (zqc s k) r) :
    ∃ y pk', y < 4096 ∧ zqP R s k y = true ∧ zcnt (zqP R s k) y = n ∧ zapr (zapg (fX11_answerAt_59 K fa od hd qc qs bc bs rtt p1 (nI n) (nI v) K (-1) 0) q w fr g re fi rt im) r pk ff = some (Sum.inr (nI (zvy s k y v)), zgr q w fr g re fi rt im (zpf r (pk', ff))) := by
  have hcl := zcnt_le (zqP R s k) 4096
  obtain ⟨_, ⟨y, pk', h1, h2, h3, rfl⟩, e⟩ := z_for (F := fun m i (u : Nat) => zapr (zapg (fX11_answerAt_59 K fa od hd qc qs bc bs rtt p1 (nI n) (nI v) m (if u = 0 then -1 else nI (u - 1)) (nI i)) q w fr g re fi rt im) r pk ff) (n := n) (inv := fun i u => u ≤ 4096 ∧ zcnt (zqP R s k) u = i) (post := fun o => ∃ y pk', y < 4096 ∧ zqP R s k y = true ∧ zcnt (zqP R s k) y = n ∧ o = (Sum.inr (nI (zvy s k y v)), zgr q w fr g re fi rt im (zpf r (pk', ff))))
    (by
      intro m i u hi hinv
      obtain ⟨h1, h2⟩ := hinv
      left
      have hlt := zcnt_lt_znk (zqP R s k) h1 (by omega)
      have hyes := znk_yes (zqP R s k) hlt
      refine ⟨znk (zqP R s k) u + 1, ⟨by omega, ?_⟩, ?_⟩
      · rw [zcnt_s, zcnt_znk (zqP R s k) h1, h2, hyes]; rfl
      · show (if nI n ≤ nI i then _ else ((fX0_after K r.2.2.2.2.2.2.2.2.2.2.2.2.2.1 (if u = 0 then -1 else nI (u - 1))).bind fun q71 => zapr (zapg (fX11_answerAt_59 K fa od hd qc qs bc bs rtt p1 (nI n) (nI v) m q71 (nI i + (1 : Int32))) q w fr g re fi rt im) r pk ff)) = _
        rw [if_neg (show ¬ nI n ≤ nI i by rw [zi_le (by omega) (by omega)]; omega), zaft K (by omega) (P := zqP R s k) (fun y hy => hfd.2.2.2.2.1 y hy) h1 hlt, Option.bind_some, nI_succ i]
        rw [if_neg (show ¬ znk (zqP R s k) u + 1 = 0 by omega), show znk (zqP R s k) u + 1 - 1 = znk (zqP R s k) u by omega])
    (by
      intro m u hinv
      obtain ⟨h1, h2⟩ := hinv
      obtain ⟨y, y1, y2, y3, y4, y5, y6⟩ := zpick_step K (by omega) (w := r.2.2.2.2.2.2.2.2.2.2.2.2.2.1) (seq := r.2.2.1) hfd.1 hfd.2.1 (P := zqP R s k) (fun y hy => hfd.2.2.2.2.1 y hy) h1 (by omega) pk
      refine ⟨_, ⟨y, nI (zch (zpk (zqpl s k) (zqc s k) y (zqc s k))), y1, y3, ?_, rfl⟩, ?_⟩
      · rw [zcnt_s, y3, h2] at y4
        have e1 : (true).toNat = 1 := rfl
        omega
      · show (if nI n ≤ nI n then ((fX0_pickAfter K r.2.2.1 r.2.2.2.2.2.2.2.2.1 r.2.2.2.2.2.2.2.2.2.2.2.2.2.1 (if u = 0 then -1 else nI (u - 1)) pk).bind fun q88 => (fX1_valueOf (nI v) q88.2).bind fun q100 => some ((Sum.inr q100 : Nat ⊕ Int32), zgr q w fr g re fi rt im (zpf r (q88.2, ff)))) else _) = _
        rw [if_pos (by rw [zi_le (by omega) (by omega)]; omega), hfd.2.2.1, y6, Option.bind_some]
        show ((fX1_valueOf (nI v) (nI (zch (zpk (zqpl s k) (zqc s k) y (zqc s k))))).bind _) = _
        rw [zX1_valueOf (fun v _ => zpk_lt _ _ _ _ v) hv, Option.bind_some]
        rfl) n K 0 0 (by omega) ⟨by omega, rfl⟩ (by omega)
  exact ⟨y, pk', h1, h2, h3, e⟩
theorem zc_answerAt (K : Nat) (hK : 1000000 < K) {s : Nat → Nat} (hW : zWF s) {M : Nat → Nat} (hM : zLst (zE s) M) (hM4 : ∀ t, t < 5 → M t ≤ 4) {wd : Nat → Int32} (hwd : ∀ t, t < s 0 → wd t = nI (s (1 + t))) {fa : Nat → Int64} {hd : Nat → Int32} {bc : Nat → Nat → Int32} {bs : Nat → Int32} {rtt : Int32} (hfa : zeqR (zw fa) (zfacts s)) (hR : zRc hd bc bs rtt s) (q : zR13) (w fr : Nat → Int64) (g re fi : Nat → Int32) (rt im : Int32) (hg : im = 0 ∨ im = 1 ∧ zGn s M w g re fi rt) {now row layer value : Nat → Int32} {rounds : Int32} (hm : zM now s) (hrow : zMr row (zly s M 5).1) (hl : ∀ t, t < 5 → layer t = nI (M t)) (hro : rounds = nI (zly s M 5).2) (hval : ∃ val, zMv value val) {od : Nat → Int32} (hod : ∀ q, q < 4 → od q = nI (zqo s q)) {qc : Nat → Nat → Int32} {qs : Nat → Int32} (hq5 : ∀ q, q < 4 → qs q = nI (zqn s q) ∧ zL (qc q) (zqn s q) (zqa s q) (fun _ => false)) (r : zR15) (ff : Int32) (hff : zFo s w im r ff) (p p2 p3 th pk : Int32) (place : Nat → Int32) (places : Int32) :
    ∃ e b q' w' fr' g' re' fi' rt' im' r' pk' ff' value' place' places', zapr (zapg (fX11_answerAt K fa od hd qc qs bc bs rtt p p2 p3) q w fr g re fi rt im) r pk ff = some (e, zgr q' w' fr' g' re' fi' rt' im' (zpf r' (pk', ff'))) ∧ fX12_answerAt K now row p p2 p3 th value place places = some (b.1, b.2, value', place', places') ∧ (∃ val, zMv value' val) ∧ zAg [0] 0 e b ∧ zGa s M w g re fi rt im w' g' re' fi' rt' im' ∧ zFo s w' im' r' ff' := by
  unfold zapr zapg fX11_answerAt fX12_answerAt fX12_answerAt_25 fX12_fails
  rcases zC_query p with ⟨k, hk, rfl, e1, e2⟩ | ⟨e1, e2⟩
  · obtain ⟨q', w', fr', g', re', fi', rt', r', er, el, hga, hfo, hrow', hfd, hz⟩ := zSee K hK hW hM hM4 hwd hfa hR q w fr g re fi rt im hg hm hrow hl hro hval hod hq5 r ff hff hk
    obtain ⟨h1, h2, h3⟩ := hW.2.2.2.2.2.1 k hk
    have cls : ∀ {pp : Int32} {x : (Nat ⊕ Unit) × Unit}, fX11_needStanding K qc qs (nI k) pp = some x → ∀ f1 f2, ((fX11_needStanding K qc qs (nI k) pp).bind fun q8 => q8.1.elim f1 f2 : Option ((Nat ⊕ Int32) × zR20p)) = x.1.elim f1 f2 := by
      intro pp x hx f1 f2
      rw [hx]; rfl
    rw [e1, e2, Option.bind_some, Option.bind_some, if_neg (show ¬ bI true = 0 by decide)]
    have hcl := zcnt_le (zqP (zw w') s k) 4096
    have hq14 : r'.2.2.2.2.2.2.2.2.2.2.2.2.2.2 = nI (zcnt (zqP (zw w') s k) 4096) := hfd.2.2.2.2.2
    have bad : ∀ {v : Nat}, p3 = nI v → fX11_needStanding K qc qs (nI k) p3 = some (.inr (), ()) → (p2 < 0 ∨ (¬ p2 < 0 ∧ ¬ p2 < nI (zcnt (zqP (zw w') s k) 4096))) → zapr (zapg (fX11_answerAt K fa od hd qc qs bc bs rtt (nI k) p2 p3) q w fr g re fi rt im) r pk ff = some (.inl 0, zgr q' w' fr' g' re' fi' rt' 1 (zpf r' (pk, nI k))) := by
      intro v hv3 e3 hb
      unfold zapr zapg fX11_answerAt
      rw [e1, Option.bind_some]
      refine (cls e3 _ _).trans ?_
      show ((zap (fX4_refresh K fa hd bc bs rtt) q w fr g re fi rt im).bind _) = _
      rw [er, Option.bind_some]
      show ((zapr (fX11_look K od qc qs w' (nI k)) r ff).bind _) = _
      rw [el, Option.bind_some]
      rcases hb with hb | ⟨hb, hb2⟩
      · rw [if_pos hb]; rfl
      · rw [if_neg hb]
        show (if p2 < r'.2.2.2.2.2.2.2.2.2.2.2.2.2.2 then _ else _) = _
        rw [hq14, if_neg hb2]; rfl
    by_cases g0 : p2 < 0
    · rw [if_pos g0]
      rcases zC_standing K (by omega) hm hW hq5 hk p3 with ⟨v, m, hv, hv3, hmc, hmv, e3, e4⟩ | ⟨e3, e4⟩
      · have hb := bad hv3 e3 (Or.inl g0)
        unfold zapr zapg fX11_answerAt at hb
        rw [e1, Option.bind_some] at hb
        exact ⟨.inl 0, (0, 1), q', w', fr', g', re', fi', rt', 1, r', pk, nI k, value, place, places, hb, rfl, hval, Or.inl ⟨0, by decide, rfl, rfl⟩, hga, hfo⟩
      · exact ⟨.inl 0, (0, 1), q, w, fr, g, re, fi, rt, im, r, pk, ff, value, place, places, cls e3 _ _, rfl, hval, Or.inl ⟨0, by decide, rfl, rfl⟩, Or.inl ⟨rfl, rfl, rfl, rfl, rfl, rfl⟩, hff⟩
    · rw [if_neg g0]
      obtain ⟨n, hn, rfl⟩ := zI_ex p2 g0
      rcases zC_standing K (by omega) hm hW hq5 hk p3 with ⟨v, m, hv, rfl, hmc, hmv, e3, e4⟩ | ⟨e3, e4⟩
      · obtain ⟨p', ep, hp⟩ := zX12_choices K (by omega) hm hk h1 h2 place places
        rw [e4, Option.bind_some, if_neg (show ¬ bI true = 0 by decide), ep, Option.bind_some]
        by_cases hnt : n < zcnt (zqP (zw w') s k) 4096
        · obtain ⟨y, v', y1, y2, y3, ev, hv'⟩ := zX12_answerAtL K (by omega) hm hrow' hk h1 h2 hp hmc hval 0 hnt
          rw [hmv] at ev
          obtain ⟨z, pk', z1, z2, z3, ez⟩ := zX11_answerAt59 K (by omega) fa od hd qc qs bc bs rtt hv hnt q' w' fr' g' re' fi' rt' 1 r' pk (nI k) (nI k) hfd
          have hyz : z = y := by
            have mono : ∀ a b, a < b → zqP (zw w') s k a = true → zcnt (zqP (zw w') s k) a = n → zcnt (zqP (zw w') s k) b = n → False := by
              intro a b hab ha c1 c2
              have := zcnt_mono (zqP (zw w') s k) (show a + 1 ≤ b by omega)
              rw [zcnt_s, ha] at this
              have e1 : (true).toNat = 1 := rfl
              omega
            rcases Nat.lt_trichotomy z y with g | g | g
            · exact absurd (mono _ _ g z2 z3 y3) (fun h => h)
            · exact g
            · exact absurd (mono _ _ g y2 y3 z3) (fun h => h)
          rw [hyz] at ez
          refine ⟨_, (_, 0), q', w', fr', g', re', fi', rt', 1, r', pk', nI k, v', p', nI (zqc s k), ?_, ev, hv', Or.inr ⟨_, rfl, rfl⟩, hga, hfo⟩
          refine (cls e3 _ _).trans ?_
          show ((zap (fX4_refresh K fa hd bc bs rtt) q w fr g re fi rt im).bind _) = _
          rw [er, Option.bind_some]
          show ((zapr (fX11_look K od qc qs w' (nI k)) r ff).bind _) = _
          rw [el, Option.bind_some, if_neg g0]
          show (if nI n < r'.2.2.2.2.2.2.2.2.2.2.2.2.2.2 then zapr (zapg (fX11_answerAt_59 K fa od hd qc qs bc bs rtt (nI k) (nI n) (nI v) K (-1) 0) q' w' fr' g' re' fi' rt' 1) r' pk (nI k) else _) = _
          rw [hq14, if_pos (by rw [zi_lt (by omega) (by omega)]; exact hnt)]
          exact ez
        · obtain ⟨v', ev, hv'⟩ := zX12_answerAtN K (by omega) hm hrow' hk h1 h2 hp (nI v) hval 0 hn (by omega)
          have hb := bad rfl e3 (Or.inr ⟨g0, by rw [zi_lt (by omega) (by omega)]; exact hnt⟩)
          unfold zapr zapg fX11_answerAt at hb
          rw [e1, Option.bind_some] at hb
          exact ⟨.inl 0, (0, 1), q', w', fr', g', re', fi', rt', 1, r', pk, nI k, v', p', nI (zqc s k), hb, ev, hv', Or.inl ⟨0, by decide, rfl, rfl⟩, hga, hfo⟩
      · rw [e4, Option.bind_some, if_pos (show bI false = 0 from rfl)]
        exact ⟨.inl 0, (0, 1), q, w, fr, g, re, fi, rt, im, r, pk, ff, value, place, places, cls e3 _ _, rfl, hval, Or.inl ⟨0, by decide, rfl, rfl⟩, Or.inl ⟨rfl, rfl, rfl, rfl, rfl, rfl⟩, hff⟩
  · rw [e1, e2, Option.bind_some, Option.bind_some, if_pos (show bI false = 0 from rfl)]
    exact ⟨.inl 0, (0, 1), q, w, fr, g, re, fi, rt, im, r, pk, ff, value, place, places, rfl, rfl, hval, Or.inl ⟨0, by decide, rfl, rfl⟩, Or.inl ⟨rfl, rfl, rfl, rfl, rfl, rfl⟩, hff⟩
