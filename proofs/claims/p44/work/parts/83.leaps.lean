/-! calls of a query: leaps, groups, the size of a group, an answer -/
theorem zI_ex (x : Int32) (h : ¬ x < 0) : ∃ n, n < 2147483648 ∧ x = nI n := by
  have h0 : 0 ≤ x.toInt := by
    rw [Int32.lt_iff_toInt_lt] at h
    have : (0 : Int32).toInt = 0 := by decide
    omega
  have h1 := Int32.toInt_lt x
  refine ⟨x.toInt.toNat, by omega, ?_⟩
  apply Int32.toInt_inj.1
  rw [zi_toInt (by omega)]
  omega
theorem zst16 : ∀ B : Fin 16, ∀ v : Fin 4, (nI B.val &&& ((1 : Int32) <<< (nI v.val &&& 31)) = 0) = (B.val.testBit v.val = false) := by
  intro B v
  have : ∀ B : Fin 16, ∀ v : Fin 4, decide (nI B.val &&& ((1 : Int32) <<< (nI v.val &&& 31)) = 0) = decide (B.val.testBit v.val = false) := by decide +kernel
  have h := this B v
  rw [decide_eq_decide] at h
  exact propext h
theorem zC_standing (K : Nat) (hK : 5 < K) {now : Nat → Int32} {s : Nat → Nat} (h : zM now s) (hW : zWF s) {qc : Nat → Nat → Int32} {qs : Nat → Int32} (hq5 : ∀ q, q < 4 → qs q = nI (zqn s q) ∧ zL (qc q) (zqn s q) (zqa s q) (fun _ => false)) {q : Nat} (hq : q < 4) (p : Int32) :
    (∃ v m, v < 4 ∧ p = nI v ∧ m < zqc s q ∧ zqpl s q m = v ∧ fX11_needStanding K qc qs (nI q) p = some (.inr (), ()) ∧ fX12_standsIn K now (nI q) p = some true) ∨ (fX11_needStanding K qc qs (nI q) p = some (.inl 0, ()) ∧ fX12_standsIn K now (nI q) p = some false) := by
  obtain ⟨h1, h2, h3⟩ := hW.2.2.2.2.2.1 q hq
  obtain ⟨b1, b2⟩ := hq5 q hq
  unfold fX11_needStanding fX11_needStanding_9
  rcases zC_in2 p (m := 3) (by omega) with ⟨v, hv, rfl, e⟩ | ⟨g, e⟩
  · have hst := zX12_standsIn K hK h hq h1 (show v < 4 by omega)
    have hB := zqv_lt h1
    have hvar := zX2_variables K hK b2 false
    have e0 : (0 : Int32) = bI false := rfl
    rw [if_neg (nI_pos (by omega)), if_pos (show nI v < (4 : Int32) by rw [show (4 : Int32) = nI 4 from rfl, zi_lt (by omega) (by omega)]; exact hv), zX9_query hq, Option.bind_some, if_pos hq, b1]
    have hvar2 : fX2_variables K (qc q) (nI (zqn s q)) (0 : Int32) = some (nI (zqv s q)) := hvar
    have hq0 : (nI (zqv s q) &&& ((1 : Int32) <<< (nI v &&& 31)) = 0) = (zany (fun i => zaH (zqa s q i) v) (zqn s q) = false) := by
      have := zst16 ⟨zqv s q, hB⟩ ⟨v, by omega⟩
      rw [zqv_bit h1 (show v < 4 by omega)] at this
      exact this
    rw [hvar2, Option.bind_some, hst]
    cases ez : zany (fun i => zaH (zqa s q i) v) (zqn s q)
    · right
      exact ⟨if_pos (hq0.mpr ez), rfl⟩
    · left
      obtain ⟨i, hi, hiv⟩ := zany_iff.1 ez
      have hV := zVp_of (N := fun _ => false) h2 (fun i hi => h1.2 i hi)
      obtain ⟨f1, f2⟩ := zfA_all (A := zqa s q) (N := fun _ => false) (zqn s q) (fun _ _ => rfl)
      rw [f1, f2] at hV
      obtain ⟨m, hm, hmv⟩ := hV i hi v hiv
      exact ⟨v, m, by omega, rfl, hm, hmv, if_neg (fun g => by rw [hq0, ez] at g; cases g), rfl⟩
  · right
    have e' : fX12_in p 0 3 = some false := e
    refine ⟨?_, ?_⟩
    · rcases zC_lt p (by omega) g with g | ⟨g1, g2⟩
      · rw [if_pos g]
      · rw [if_neg g1, if_neg (show ¬ p < (4 : Int32) from g2)]
    · unfold fX12_standsIn
      rw [e', Option.bind_some, if_pos (show bI false = 0 from rfl)]
theorem zc_leaps (K : Nat) (hK : 1000000 < K) {s : Nat → Nat} (hW : zWF s) {M : Nat → Nat} (hM : zLst (zE s) M) (hM4 : ∀ t, t < 5 → M t ≤ 4) {wd : Nat → Int32} (hwd : ∀ t, t < s 0 → wd t = nI (s (1 + t))) {fa : Nat → Int64} {hd : Nat → Int32} {bc : Nat → Nat → Int32} {bs : Nat → Int32} {rtt : Int32} (hfa : zeqR (zw fa) (zfacts s)) (hR : zRc hd bc bs rtt s) (q : zR13) (w fr : Nat → Int64) (g re fi : Nat → Int32) (rt im : Int32) (hg : im = 0 ∨ im = 1 ∧ zGn s M w g re fi rt) {now row layer value : Nat → Int32} {rounds : Int32} (hm : zM now s) (hrow : zMr row (zly s M 5).1) (hl : ∀ t, t < 5 → layer t = nI (M t)) (hro : rounds = nI (zly s M 5).2) (hval : ∃ val, zMv value val) {od : Nat → Int32} (hod : ∀ q, q < 4 → od q = nI (zqo s q)) {qc : Nat → Nat → Int32} {qs : Nat → Int32} (hq5 : ∀ q, q < 4 → qs q = nI (zqn s q) ∧ zL (qc q) (zqn s q) (zqa s q) (fun _ => false)) (r : zR15) (ff : Int32) (hff : zFo s w im r ff) (p th : Int32) (place : Nat → Int32) (places lp : Int32) :
    ∃ e b q' w' fr' g' re' fi' rt' im' r' ff' value' place' places' lp', zapr (zapg (fX11_leaps K fa od hd qc qs bc bs rtt p) q w fr g re fi rt im) r ff = some (e, zgr q' w' fr' g' re' fi' rt' im' (zpf r' ff')) ∧ fX12_leaps_ K now row p th value place places lp = some (b.1, b.2, value', place', places', lp') ∧ (∃ val, zMv value' val) ∧ zAg [0] 0 e b ∧ zGa s M w g re fi rt im w' g' re' fi' rt' im' ∧ zFo s w' im' r' ff' := by
  unfold zapr zapg fX11_leaps fX12_leaps_ fX12_fails
  rcases zC_query p with ⟨k, hk, rfl, e1, e2⟩ | ⟨e1, e2⟩
  · obtain ⟨q', w', fr', g', re', fi', rt', r', er, el, hga, hfo, hrow', hfd, hz⟩ := zSee K hK hW hM hM4 hwd hfa hR q w fr g re fi rt im hg hm hrow hl hro hval hod hq5 r ff hff hk
    obtain ⟨h1, h2, h3⟩ := hW.2.2.2.2.2.1 k hk
    obtain ⟨val, hval⟩ := hval
    obtain ⟨p', ep, hp⟩ := zX12_places K (by omega) hm hk h1 h2 place places
    have hc := zqc_le s k
    rw [e1, e2, Option.bind_some, Option.bind_some, if_neg (show ¬ bI true = 0 by decide), ep, Option.bind_some]
    have hcl : (((fX4_refresh K fa hd bc bs rtt q.1 q.2.1 q.2.2.1 q.2.2.2.1 q.2.2.2.2.1 q.2.2.2.2.2.1 q.2.2.2.2.2.2.1 q.2.2.2.2.2.2.2.1 q.2.2.2.2.2.2.2.2.1 q.2.2.2.2.2.2.2.2.2.1 q.2.2.2.2.2.2.2.2.2.2.1 q.2.2.2.2.2.2.2.2.2.2.2.1 q.2.2.2.2.2.2.2.2.2.2.2.2 w fr g re fi rt im).bind fun q13 => (zapr (fX11_look K od qc qs q13.2.2.2.2.2.2.2.2.2.2.2.2.2.1 (nI k)) r ff).bind fun q18 => some ((Sum.inr q18.2.2.2.2.2.2.2.2.2.2.1 : Nat ⊕ Int32), (q13.1, q13.2.1, q13.2.2.1, q13.2.2.2.1, q13.2.2.2.2.1, q13.2.2.2.2.2.1, q13.2.2.2.2.2.2.1, q13.2.2.2.2.2.2.2.1, q13.2.2.2.2.2.2.2.2.1, q13.2.2.2.2.2.2.2.2.2.1, q13.2.2.2.2.2.2.2.2.2.2.1, q13.2.2.2.2.2.2.2.2.2.2.2.1, q13.2.2.2.2.2.2.2.2.2.2.2.2.1, q13.2.2.2.2.2.2.2.2.2.2.2.2.2.1, q13.2.2.2.2.2.2.2.2.2.2.2.2.2.2.1, q13.2.2.2.2.2.2.2.2.2.2.2.2.2.2.2.1, q13.2.2.2.2.2.2.2.2.2.2.2.2.2.2.2.2.1, q13.2.2.2.2.2.2.2.2.2.2.2.2.2.2.2.2.2.1, q13.2.2.2.2.2.2.2.2.2.2.2.2.2.2.2.2.2.2.1, q13.2.2.2.2.2.2.2.2.2.2.2.2.2.2.2.2.2.2.2, q18)))) = some (Sum.inr r'.2.2.2.2.2.2.2.2.2.2.1, zgr q' w' fr' g' re' fi' rt' 1 (zpf r' (nI k))) := by
      have er' : (fX4_refresh K fa hd bc bs rtt q.1 q.2.1 q.2.2.1 q.2.2.2.1 q.2.2.2.2.1 q.2.2.2.2.2.1 q.2.2.2.2.2.2.1 q.2.2.2.2.2.2.2.1 q.2.2.2.2.2.2.2.2.1 q.2.2.2.2.2.2.2.2.2.1 q.2.2.2.2.2.2.2.2.2.2.1 q.2.2.2.2.2.2.2.2.2.2.2.1 q.2.2.2.2.2.2.2.2.2.2.2.2 w fr g re fi rt im) = some (zrs q' w' fr' g' re' fi' rt' 1) := er
      rw [er', Option.bind_some]
      show ((zapr (fX11_look K od qc qs w' (nI k)) r ff).bind _) = _
      rw [el, Option.bind_some]
      rfl
    have hlp : zlp (zw w') (zqa s k) (zqn s k) (zqpl s k) (zqc s k) < 2147483648 ∨ True := Or.inr trivial
    by_cases hc0 : zqc s k = 0
    · refine ⟨.inr r'.2.2.2.2.2.2.2.2.2.2.1, (0, 0), q', w', fr', g', re', fi', rt', 1, r', nI k, value, p', nI (zqc s k), 0, hcl, ?_, ⟨_, hval⟩, Or.inr ⟨_, rfl, ?_⟩, hga, hfo⟩
      · show (if nI (zqc s k) ≤ 0 then some ((0 : Int32), (0 : Int32), value, p', nI (zqc s k), (0 : Int32)) else _) = _
        rw [if_pos (by rw [hc0]; decide)]
      · rw [hfd.2.2.2.1]; unfold zlp; rw [if_pos hc0]; rfl
    · obtain ⟨c, hcc⟩ : ∃ c, zqc s k = c + 1 := ⟨zqc s k - 1, by omega⟩
      obtain ⟨v', val', ev, hv', _⟩ := zleap_L4 K (by omega) hm hrow' hk h1 h2 hp (m := c) (j := 0) (by omega) (by omega) value val 0 0 hval
      refine ⟨.inr r'.2.2.2.2.2.2.2.2.2.2.1, (nI (zlp (zw w') (zqa s k) (zqn s k) (zqpl s k) (zqc s k)), 0), q', w', fr', g', re', fi', rt', 1, r', nI k, v', p', nI (zqc s k), nI (zlp (zw w') (zqa s k) (zqn s k) (zqpl s k) (zqc s k)), hcl, ?_, ⟨_, hv'⟩, Or.inr ⟨_, rfl, ?_⟩, hga, hfo⟩
      · show (if nI (zqc s k) ≤ 0 then _ else ((fX12_leapsL4 K now row p' (nI (zqc s k)) (nI k) (nI 0) value (nI 0)).bind fun q38 => some (q38.2, (0 : Int32), q38.1, p', nI (zqc s k), q38.2))) = _
        rw [if_neg (show ¬ nI (zqc s k) ≤ 0 by rw [show (0 : Int32) = nI 0 from rfl, zi_le (by omega) (by omega)]; omega), ev, Option.bind_some]
        have : 0 + (zS (zw w') (zqa s k) (zqn s k) (zqpl s k) (c + 1) 0 (zdd (zqpl s k) 0 val) 0).2 = zlp (zw w') (zqa s k) (zqn s k) (zqpl s k) (zqc s k) := by
          rw [Nat.zero_add]; unfold zlp; rw [if_neg hc0, hcc]; rfl
        rw [this]
      · rw [hfd.2.2.2.1]
  · rw [e1, e2, Option.bind_some, Option.bind_some, if_pos (show bI false = 0 from rfl)]
    exact ⟨.inl 0, (0, 1), q, w, fr, g, re, fi, rt, im, r, ff, value, place, places, lp, rfl, rfl, hval, Or.inl ⟨0, by decide, rfl, rfl⟩, Or.inl ⟨rfl, rfl, rfl, rfl, rfl, rfl⟩, hff⟩
