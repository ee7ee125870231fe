/-! the calls that change an object, where they may be -/
theorem zd_addTable (K : Nat) (hK : 1000000 < K) {O : zObj} {s : Nat → Nat} {L : List (Nat → Nat)} (h : zIc O s L) {c : Nat} (k1 : 1 ≤ c) (k3 : c ≤ 3) (h5 : s 0 < 5) :
    ∃ O', hX11_addTable K O (nI c) = some (nI (s 0), O') ∧ zIc O' (zup (zup s (1 + s 0) c) 0 (s 0 + 1)) (s :: L.take 9) := by
  obtain ⟨wd, fa, od, hd, qc, qs, bc, bs, tt, rt, H, q, w, fr, tr, g, re, fi, ro, im, r, pk, cz, lh, lp, se, md, ff⟩ := O
  obtain ⟨hW, hB, hS, hH, hg, hff⟩ := h
  have hS : zSR wd fa od hd qc qs bc bs tt rt s := hS
  have htt : tt = nI (s 0) := hS.1
  subst htt
  obtain ⟨H', ek1, hH'⟩ := zHl_keep K (by omega) hW hB hS hH ff
  obtain ⟨hW', hS'⟩ := zWF_table hW hS h5 k1 k3
  have e5 : (5 : Int32) = nI 5 := rfl
  have ec : zaph (fX11_addTable K fa od hd qc qs bc bs rt (nI c) wd (nI (s 0))) H im ff = some (Sum.inr (nI (s 0)), upd wd (s 0) (nI c), nI (s 0 + 1), zgh H' (0, -1)) := by
    unfold zaph fX11_addTable
    rw [if_neg (by rw [show (1 : Int32) = nI 1 from rfl, zi_lt (by omega) (by omega)]; omega), if_pos (by rw [show (3 : Int32) = nI 3 from rfl, zi_le (by omega) (by omega)]; omega), if_pos (by rw [e5, zi_lt (by omega) (by omega)]; omega)]
    show ((zaph (fX11_keepForUndo K wd fa od hd qc qs bc bs (nI (s 0)) rt) H ff).bind _) = _
    rw [ek1, Option.bind_some]
    show ((fX9_openTable (nI c) wd (nI (s 0))).bind fun q57 => some ((Sum.inr (q57.2 - (1 : Int32)) : Nat ⊕ Int32), (q57.1, q57.2, zgh H' ((0 : Int32), (-1 : Int32))))) = _
    unfold fX9_openTable
    rw [zX6_put (nI c) wd (show s 0 < 5 by omega) (by omega), Option.bind_some, ← nI_succ, Option.bind_some]
    have : nI (s 0 + 1) - (1 : Int32) = nI (s 0) := by rw [show (1 : Int32) = nI 1 from rfl, zi_sub (by omega)]; rfl
    rw [this]
  refine ⟨(upd wd (s 0) (nI c), fa, od, hd, qc, qs, bc, bs, nI (s 0 + 1), rt, H', q, w, fr, tr, g, re, fi, ro, 0, r, pk, cz, lh, lp, se, md, -1), ?_, hW', zBd_up (zBd_up hB (by omega)) (by omega), hS', hH', Or.inl rfl, Or.inl rfl⟩
  unfold hX11_addTable
  show ((zaph (fX11_addTable K fa od hd qc qs bc bs rt (nI c) wd (nI (s 0))) H im ff).bind _) = _
  rw [ec, Option.bind_some]
  rfl
theorem zd_factAdded {s : Nat → Nat} {fa fa' : Nat → Int64} {t k : Nat} (ht : t < 5) (hk : k < 512) (hfa : zeqR (zw fa) (zfacts s)) (hadd : ∀ t' k', t' < 5 → k' < 512 → zw fa' t' k' = (zw fa t' k' || (decide (t' = t) && decide (k' = k)))) : zeqR (zw fa') (zfacts (zup s (6 + 512 * t + k) 1)) := by
  intro t' k' ht' hk'
  rw [hadd t' k' ht' hk', zfacts_up s (by omega) hk t' k' hk', hfa t' k' ht' hk']
  by_cases g : t' = t ∧ k' = k
  · rw [if_pos g, decide_eq_true g.1, decide_eq_true g.2]; simp
  · rw [if_neg g]
    by_cases g1 : t' = t
    · rw [decide_eq_false (fun g2 => g ⟨g1, g2⟩)]; simp
    · rw [decide_eq_false g1]; simp
theorem zcnt_add {p q : Nat → Bool} {k : Nat} (hp : p k = false) (h : ∀ j, q j = (p j || decide (j = k))) : ∀ n, zcnt q n = zcnt p n + if k < n then 1 else 0
  | 0 => rfl
  | n + 1 => by
    rw [zcnt_s, zcnt_s, zcnt_add hp h n, h n]
    by_cases g : n = k
    · subst g
      rw [hp, if_neg (by omega), if_pos (by omega)]
      simp
    · rw [decide_eq_false g, Bool.or_false]
      by_cases g2 : k < n
      · rw [if_pos g2, if_pos (by omega)]; omega
      · rw [if_neg g2, if_neg (by omega)]; omega
theorem zd_cntAdd {s : Nat → Nat} {t k : Nat} (hk : k < 512) (hf : zfacts s t k = false) : zcnt (zfacts (zup s (6 + 512 * t + k) 1) t) 512 = zcnt (zfacts s t) 512 + 1 := by
  rw [zcnt_add (p := zfacts s t) (k := k) hf (by
    intro j
    unfold zfacts zup
    by_cases g : j = k
    · rw [if_pos (by omega), decide_eq_true g]; simp
    · rw [if_neg (by omega), decide_eq_false g]; simp) 512, if_pos hk]
theorem zd_cntSub {s : Nat → Nat} {t k : Nat} (hk : k < 512) (hf : zfacts s t k = true) : zcnt (zfacts (zup s (6 + 512 * t + k) 0) t) 512 + 1 = zcnt (zfacts s t) 512 := by
  rw [zcnt_add (p := zfacts (zup s (6 + 512 * t + k) 0) t) (q := zfacts s t) (k := k) (by unfold zfacts; rw [zup_at]; rfl) (by
    intro j
    by_cases g : j = k
    · subst g
      rw [hf, decide_eq_true rfl, Bool.or_true]
    · unfold zfacts
      rw [zup_ne _ _ (show 6 + 512 * t + j ≠ 6 + 512 * t + k by omega), decide_eq_false g, Bool.or_false]) 512, if_pos hk]
theorem zd_addFact (K : Nat) (hK : 1000000 < K) {O : zObj} {s : Nat → Nat} {L : List (Nat → Nat)} (h : zIc O s L) {t x y z k : Nat} (ht : t < s 0) (hv : zvl 8 (s (1 + t)) x y z) (hk : k = 64 * x + 8 * y + z) (h60 : zcnt (zfacts s t) 512 < 60) :
    ∃ O', hY11_addFact K O (nI t) (nI x) (nI y) (nI z) = some (if zfacts s t k = true then -1 else nI (zcnt (zfacts s t) 512 + 1), O') ∧ zIc O' (if zfacts s t k = true then s else zup s (6 + 512 * t + k) 1) (if zfacts s t k = true then L else s :: L.take 9) := by
  obtain ⟨wd, fa, od, hd, qc, qs, bc, bs, tt, rt, H, q, w, fr, tr, g, re, fi, ro, im, r, pk, cz, lh, lp, se, md, ff⟩ := O
  have h0 := h
  obtain ⟨hW, hB, hS, hH, hg, hff⟩ := h
  have hS : zSR wd fa od hd qc qs bc bs tt rt s := hS
  have htt : tt = nI (s 0) := hS.1
  subst htt
  have hs5 := hW.1
  have hwd := hS.2.1
  have hfa := hS.2.2.1
  have e60 : (60 : Int32) = nI 60 := rfl
  obtain ⟨e3, e5, hk5, hz⟩ := zd_row hW hwd ht hv
  rw [← hk] at e5 hk5 hz
  have e1 := zd_tab ht hs5
  have hcc := zin_tab (show t < 5 by omega) hfa
  have hc0 : ∀ {y'}, ((fX11_rowOf (nI x) (nI y) (nI z)).bind fun q18 => (fX7_has fa (nI t) q18).bind fun q33 => if bI q33 = 0 then ((fX7_size K fa (nI t)).bind fun q57 => if q57 < (60 : Int32) then ((zaph (fX11_keepForUndo K wd fa od hd qc qs bc bs (nI (s 0)) rt) H ff).bind fun q76 => (fX4_forget im).bind fun q83 => (fX7_add (nI t) q18 fa).bind fun q96 => (fX7_size K q96 (nI t)).bind fun q107 => some ((Sum.inr q107 : Nat ⊕ Int32), (q96, q76.1, q76.2.1, q76.2.2.1, q76.2.2.2.1, q76.2.2.2.2.1, q76.2.2.2.2.2.1, q76.2.2.2.2.2.2.1, q76.2.2.2.2.2.2.2.1, q76.2.2.2.2.2.2.2.2.1, q76.2.2.2.2.2.2.2.2.2.1, q76.2.2.2.2.2.2.2.2.2.2.1, q76.2.2.2.2.2.2.2.2.2.2.2.1, q83, q76.2.2.2.2.2.2.2.2.2.2.2.2))) else some (Sum.inl 2, (fa, zgh H (im, ff)))) else some (Sum.inl 2, (fa, zgh H (im, ff)))) = y' → zaph (fX11_addFact K wd od hd qc qs bc bs (nI (s 0)) rt (nI t) (nI x) (nI y) (nI z) fa) H im ff = y' := by
    intro y' hy
    unfold zaph fX11_addFact
    rw [e1, Option.bind_some]
    show ((fX11_needRow wd (nI t) (nI x) (nI y) (nI z)).bind _) = _
    rw [e3, Option.bind_some]
    exact hy
  cases ef : zfacts s t k
  · obtain ⟨H', ek1, hH'⟩ := zHl_keep K (by omega) hW hB hS hH ff
    obtain ⟨hW', hR, hQ, hT⟩ := zWF_fact (v := 1) hW ht hk5 (by omega) hz (fun _ => by omega)
    obtain ⟨fa', ea, hadd⟩ := zX7_add fa (show t < 5 by omega) hk5
    have hf' := zd_factAdded (show t < 5 by omega) hk5 hfa hadd
    have hS' := zSR_facts hS (zup_ne s 1 (by omega)) hR hQ hT hf'
    have ec : zaph (fX11_addFact K wd od hd qc qs bc bs (nI (s 0)) rt (nI t) (nI x) (nI y) (nI z) fa) H im ff = some (Sum.inr (nI (zcnt (zfacts s t) 512 + 1)), fa', zgh H' (0, -1)) := by
      apply hc0
      rw [e5, Option.bind_some, zX7_has fa (show t < 5 by omega) hk5, Option.bind_some, hfa t k (by omega) hk5, ef, if_pos (show bI false = 0 from rfl), zX7_size K (by omega) fa (show t < 5 by omega), Option.bind_some, hcc, if_pos (by rw [e60, zi_lt (by omega) (by omega)]; omega), ek1, Option.bind_some]
      show ((fX7_add (nI t) (nI k) fa).bind fun q96 => (fX7_size K q96 (nI t)).bind fun q107 => some ((Sum.inr q107 : Nat ⊕ Int32), (q96, zgh H' ((0 : Int32), (-1 : Int32))))) = _
      rw [ea, Option.bind_some, zX7_size K (by omega) fa' (show t < 5 by omega), Option.bind_some, zin_tab (show t < 5 by omega) hf', zd_cntAdd hk5 ef]
    refine ⟨(wd, fa', od, hd, qc, qs, bc, bs, nI (s 0), rt, H', q, w, fr, tr, g, re, fi, ro, 0, r, pk, cz, lh, lp, se, md, -1), ?_, ?_⟩
    · unfold hY11_addFact
      show ((zaph (fX11_addFact K wd od hd qc qs bc bs (nI (s 0)) rt (nI t) (nI x) (nI y) (nI z) fa) H im ff).bind _) = _
      rw [ec, Option.bind_some, if_neg (by decide)]
      rfl
    · rw [if_neg (by decide), if_neg (by decide)]
      exact ⟨hW', zBd_up hB (by omega), hS', hH', Or.inl rfl, Or.inl rfl⟩
  · have ec : zaph (fX11_addFact K wd od hd qc qs bc bs (nI (s 0)) rt (nI t) (nI x) (nI y) (nI z) fa) H im ff = some (Sum.inl 2, (fa, zgh H (im, ff))) := by
      apply hc0
      rw [e5, Option.bind_some, zX7_has fa (show t < 5 by omega) hk5, Option.bind_some, hfa t k (by omega) hk5, ef, if_neg (show ¬ bI true = 0 by decide)]
    refine ⟨(wd, fa, od, hd, qc, qs, bc, bs, nI (s 0), rt, H, q, w, fr, tr, g, re, fi, ro, im, r, pk, cz, lh, lp, se, md, ff), ?_, ?_⟩
    · unfold hY11_addFact
      show ((zaph (fX11_addFact K wd od hd qc qs bc bs (nI (s 0)) rt (nI t) (nI x) (nI y) (nI z) fa) H im ff).bind _) = _
      rw [ec, Option.bind_some, if_pos rfl]
      rfl
    · rw [if_pos rfl, if_pos rfl]
      exact h0
theorem zd_removeFact (K : Nat) (hK : 1000000 < K) {O : zObj} {s : Nat → Nat} {L : List (Nat → Nat)} (h : zIc O s L) {t x y z k : Nat} (ht : t < s 0) (hv : zvl 8 (s (1 + t)) x y z) (hk : k = 64 * x + 8 * y + z) (ef : zfacts s t k = true) :
    ∃ O', hX11_removeFact K O (nI t) (nI x) (nI y) (nI z) = some (nI (zcnt (zfacts s t) 512 - 1), O') ∧ zIc O' (zup s (6 + 512 * t + k) 0) (s :: L.take 9) := by
  obtain ⟨wd, fa, od, hd, qc, qs, bc, bs, tt, rt, H, q, w, fr, tr, g, re, fi, ro, im, r, pk, cz, lh, lp, se, md, ff⟩ := O
  obtain ⟨hW, hB, hS, hH, hg, hff⟩ := h
  have hS : zSR wd fa od hd qc qs bc bs tt rt s := hS
  have htt : tt = nI (s 0) := hS.1
  subst htt
  have hs5 := hW.1
  have hwd := hS.2.1
  have hfa := hS.2.2.1
  obtain ⟨e3, e5, hk5, hz⟩ := zd_row hW hwd ht hv
  rw [← hk] at e5 hk5 hz
  have e1 := zd_tab ht hs5
  obtain ⟨H', ek1, hH'⟩ := zHl_keep K (by omega) hW hB hS hH ff
  obtain ⟨hW', hR, hQ, hT⟩ := zWF_fact (v := 0) hW ht hk5 (by omega) hz (fun g => by omega)
  obtain ⟨fa', ea, hadd⟩ := zX7_remove fa (show t < 5 by omega) hk5
  have hf' : zeqR (zw fa') (zfacts (zup s (6 + 512 * t + k) 0)) := by
    intro t' k' ht' hk'
    rw [hadd t' k' ht' hk', zfacts_up s (by omega) hk5 t' k' hk', hfa t' k' ht' hk']
    by_cases g : t' = t ∧ k' = k
    · rw [if_pos g, decide_eq_true g.1, decide_eq_true g.2]; simp
    · rw [if_neg g]
      by_cases g1 : t' = t
      · rw [decide_eq_false (fun g2 => g ⟨g1, g2⟩)]; simp
      · rw [decide_eq_false g1]; simp
  have hS' := zSR_facts hS (zup_ne s 0 (by omega)) hR hQ hT hf'
  have hcs := zd_cntSub hk5 ef
  have hcn : zcnt (zfacts (zup s (6 + 512 * t + k) 0) t) 512 = zcnt (zfacts s t) 512 - 1 := by omega
  have ec : zaph (fX11_removeFact K wd od hd qc qs bc bs (nI (s 0)) rt (nI t) (nI x) (nI y) (nI z) fa) H im ff = some (Sum.inr (nI (zcnt (zfacts s t) 512 - 1)), fa', zgh H' (0, -1)) := by
    unfold zaph fX11_removeFact
    rw [e1, Option.bind_some]
    show ((fX11_needRow wd (nI t) (nI x) (nI y) (nI z)).bind _) = _
    rw [e3, Option.bind_some]
    show ((fX11_rowOf (nI x) (nI y) (nI z)).bind fun q18 => (fX7_has fa (nI t) q18).bind fun q33 => if bI q33 = 0 then some (Sum.inl 3, (fa, zgh H (im, ff))) else ((zaph (fX11_keepForUndo K wd fa od hd qc qs bc bs (nI (s 0)) rt) H ff).bind fun q50 => (fX4_forget im).bind fun q57 => (fX7_remove (nI t) q18 fa).bind fun q70 => (fX7_size K q70 (nI t)).bind fun q81 => some ((Sum.inr q81 : Nat ⊕ Int32), (q70, q50.1, q50.2.1, q50.2.2.1, q50.2.2.2.1, q50.2.2.2.2.1, q50.2.2.2.2.2.1, q50.2.2.2.2.2.2.1, q50.2.2.2.2.2.2.2.1, q50.2.2.2.2.2.2.2.2.1, q50.2.2.2.2.2.2.2.2.2.1, q50.2.2.2.2.2.2.2.2.2.2.1, q50.2.2.2.2.2.2.2.2.2.2.2.1, q57, q50.2.2.2.2.2.2.2.2.2.2.2.2)))) = _
    rw [e5, Option.bind_some, zX7_has fa (show t < 5 by omega) hk5, Option.bind_some, hfa t k (by omega) hk5, ef, if_neg (show ¬ bI true = 0 by decide), ek1, Option.bind_some]
    show ((fX7_remove (nI t) (nI k) fa).bind fun q70 => (fX7_size K q70 (nI t)).bind fun q81 => some ((Sum.inr q81 : Nat ⊕ Int32), (q70, zgh H' ((0 : Int32), (-1 : Int32))))) = _
    rw [ea, Option.bind_some, zX7_size K (by omega) fa' (show t < 5 by omega), Option.bind_some, zin_tab (show t < 5 by omega) hf', hcn]
  refine ⟨(wd, fa', od, hd, qc, qs, bc, bs, nI (s 0), rt, H', q, w, fr, tr, g, re, fi, ro, 0, r, pk, cz, lh, lp, se, md, -1), ?_, hW', zBd_up hB (by omega), hS', hH', Or.inl rfl, Or.inl rfl⟩
  unfold hX11_removeFact
  show ((zaph (fX11_removeFact K wd od hd qc qs bc bs (nI (s 0)) rt (nI t) (nI x) (nI y) (nI z) fa) H im ff).bind _) = _
  rw [ec, Option.bind_some]
  rfl
/-- a query with an atom more -/
def zqad (s : Nat → Nat) (q t x y z : Nat) : Nat → Nat := zup (zlay s (zqp q (zqn s q)) t x y z) (2570 + 21 * q) (zqn s q + 1)
theorem zd_addAtom (K : Nat) (hK : 1000000 < K) {O : zObj} {s : Nat → Nat} {L : List (Nat → Nat)} (h : zIc O s L) {k t x y z : Nat} (hk : k < 4) (hn : zqn s k < 5) (ht : t < s 0) (hv : zvl 4 (s (1 + t)) x y z) :
    ∃ O', hX11_addAtom K O (nI k) (nI t) (nI x) (nI y) (nI z) = some (nI (zqn s k), O') ∧ zIc O' (zqad s k t x y z) (s :: L.take 9) := by
  obtain ⟨wd, fa, od, hd, qc, qs, bc, bs, tt, rt, H, q, w, fr, tr, g, re, fi, ro, im, r, pk, cz, lh, lp, se, md, ff⟩ := O
  obtain ⟨hW, hB, hS, hH, hg, hff⟩ := h
  have hS : zSR wd fa od hd qc qs bc bs tt rt s := hS
  have htt : tt = nI (s 0) := hS.1
  subst htt
  have hs5 := hW.1
  have e5 : (5 : Int32) = nI 5 := rfl
  have hwd := hS.2.1
  obtain ⟨c1, c3⟩ := hW.2.1 t ht
  obtain ⟨b1, b2⟩ := hS.2.2.2.2.1 k hk
  have e1 := zd_que hk
  have e3 := zd_tab ht hs5
  obtain ⟨e5', hx, hy, hz⟩ := zd_vars hW hwd ht hv
  obtain ⟨H', ek1, hH'⟩ := zHl_keep K (by omega) hW hB hS hH ff
  obtain ⟨hW', hS', hR, hf⟩ := zWF_atom hW hS hk hn ht hx hy hz rfl
  have hsub : nI (zqn s k + 1) - (1 : Int32) = nI (zqn s k) := by rw [show (1 : Int32) = nI 1 from rfl, zi_sub (by omega)]; rfl
  have hadd := (zX2_add b2 hn (a := (t, s (1 + t), x, y, z)) (b := false) ⟨by show t < 5; omega, c1, c3, hx, hy, hz⟩).1
  have ec : zaph (fX11_addAtom K wd fa od hd bc bs (nI (s 0)) rt (nI k) (nI t) (nI x) (nI y) (nI z) qc qs) H ff = some (Sum.inr (nI (zqn s k)), zup qc k (upd (qc k) (zqn s k) (nI (zaC (t, s (1 + t), x, y, z) false))), zup qs k (nI (zqn s k + 1)), zgh H' (-1)) := by
    unfold zaph fX11_addAtom
    rw [e1, Option.bind_some]
    show ((fX11_needTable (nI (s 0)) (nI t)).bind _) = _
    rw [e3, Option.bind_some]
    show ((fX11_needVariables wd (nI t) (nI x) (nI y) (nI z)).bind _) = _
    rw [e5', Option.bind_some]
    show ((fX9_query (nI k)).bind _) = _
    rw [zX9_query hk, Option.bind_some, if_pos hk, b1, if_pos (by rw [e5, zi_lt (by omega) (by omega)]; omega)]
    show ((zaph (fX11_keepForUndo K wd fa od hd qc qs bc bs (nI (s 0)) rt) H ff).bind _) = _
    rw [ek1, Option.bind_some, zX6_at wd (show t < 5 by omega) (by omega), Option.bind_some, hwd t ht, zX1_code (by omega) c1 c3 hx hy hz, Option.bind_some, hadd, Option.bind_some]
    show some ((Sum.inr (zup qs k (nI (zqn s k + 1)) k - (1 : Int32)) : Nat ⊕ Int32), _) = _
    rw [zup_at, hsub]
  refine ⟨(wd, fa, od, hd, zup qc k (upd (qc k) (zqn s k) (nI (zaC (t, s (1 + t), x, y, z) false))), zup qs k (nI (zqn s k + 1)), bc, bs, nI (s 0), rt, H', q, w, fr, tr, g, re, fi, ro, im, r, pk, cz, lh, lp, se, md, -1), ?_, zIk_same hW hg r hW' (zBd_up (zBd_lay hB (by omega) (by omega) (by omega) (by omega)) (by omega)) hS' hR hf hH'⟩
  unfold hX11_addAtom
  show ((zaph (fX11_addAtom K wd fa od hd bc bs (nI (s 0)) rt (nI k) (nI t) (nI x) (nI y) (nI z) qc qs) H ff).bind _) = _
  rw [ec, Option.bind_some]
  rfl
theorem zd_setOrder (K : Nat) (hK : 1000000 < K) {O : zObj} {s : Nat → Nat} {L : List (Nat → Nat)} (h : zIc O s L) {k o : Nat} (hk : k < 4) (ho : zOr o) :
    ∃ O', hX11_setOrder K O (nI k) (nI o) = some (nI (zqo s k), O') ∧ zIc O' (zup s (2566 + k) o) (s :: L.take 9) := by
  obtain ⟨wd, fa, od, hd, qc, qs, bc, bs, tt, rt, H, q, w, fr, tr, g, re, fi, ro, im, r, pk, cz, lh, lp, se, md, ff⟩ := O
  obtain ⟨hW, hB, hS, hH, hg, hff⟩ := h
  have hS : zSR wd fa od hd qc qs bc bs tt rt s := hS
  have ho4 := ho.1
  have e1 := zd_que hk
  obtain ⟨bb, e3, hbb⟩ := zX11_isOrder K (by omega) ho4
  have hbt : bb = true := hbb.2 ho
  subst hbt
  obtain ⟨H', ek1, hH'⟩ := zHl_keep K (by omega) hW hB hS hH ff
  obtain ⟨hW', hS', hR, hf⟩ := zWF_order hW hS hk ho
  have ec : zaph (fX11_setOrder K wd fa hd qc qs bc bs tt rt (nI k) (nI o) od) H ff = some (Sum.inr (nI (zqo s k)), upd od k (nI o), zgh H' (-1)) := by
    unfold zaph fX11_setOrder
    rw [e1, Option.bind_some]
    show ((fX11_isOrder K (nI o)).bind _) = _
    rw [e3, Option.bind_some, if_neg (show ¬ bI true = 0 by decide), zX6_at od hk (by omega), Option.bind_some, hS.2.2.2.1 k hk]
    show ((zaph (fX11_keepForUndo K wd fa od hd qc qs bc bs tt rt) H ff).bind _) = _
    rw [ek1, Option.bind_some, zX6_put (nI o) od hk (by omega), Option.bind_some]
  refine ⟨(wd, fa, upd od k (nI o), hd, qc, qs, bc, bs, tt, rt, H', q, w, fr, tr, g, re, fi, ro, im, r, pk, cz, lh, lp, se, md, -1), ?_, zIk_same hW hg r hW' (zBd_up hB ho4) hS' hR hf hH'⟩
  unfold hX11_setOrder
  show ((zaph (fX11_setOrder K wd fa hd qc qs bc bs tt rt (nI k) (nI o) od) H ff).bind _) = _
  rw [ec, Option.bind_some]
  rfl
/-- a rule more -/
def zrad (s : Nat → Nat) (t x y z : Nat) : Nat → Nat := zup (zup (zlay s (zhp (zrn s)) t x y z) (zhp (zrn s) + 4) 0) 2654 (zrn s + 1)
theorem zd_addRule (K : Nat) (hK : 1000000 < K) {O : zObj} {s : Nat → Nat} {L : List (Nat → Nat)} (h : zIc O s L) {t x y z : Nat} (hn : zrn s < 5) (ht : t < s 0) (hv : zvl 4 (s (1 + t)) x y z) :
    ∃ O', hX11_addRule K O (nI t) (nI x) (nI y) (nI z) = some (nI (zrn s), O') ∧ zIc O' (zrad s t x y z) (s :: L.take 9) := by
  obtain ⟨wd, fa, od, hd, qc, qs, bc, bs, tt, rt, H, q, w, fr, tr, g, re, fi, ro, im, r, pk, cz, lh, lp, se, md, ff⟩ := O
  obtain ⟨hW, hB, hS, hH, hg, hff⟩ := h
  have hS : zSR wd fa od hd qc qs bc bs tt rt s := hS
  have htt : tt = nI (s 0) := hS.1
  subst htt
  have hrt : rt = nI (zrn s) := hS.2.2.2.2.2.1
  subst hrt
  have hs5 := hW.1
  have hwd := hS.2.1
  have e5 : (5 : Int32) = nI 5 := rfl
  obtain ⟨c1, c3⟩ := hW.2.1 t ht
  have e1 := zd_tab ht hs5
  obtain ⟨e5', hx, hy, hz⟩ := zd_vars hW hwd ht hv
  obtain ⟨H', ek1, hH'⟩ := zHl_keep K (by omega) hW hB hS hH ff
  obtain ⟨hW', hS'⟩ := zWF_rule hW hS hn ht hx hy hz rfl
  have hsub : nI (zrn s + 1) - (1 : Int32) = nI (zrn s) := by rw [show (1 : Int32) = nI 1 from rfl, zi_sub (by omega)]; rfl
  have ec : zaph (fX11_addRule K wd fa od qc qs bc (nI (s 0)) (nI t) (nI x) (nI y) (nI z) hd bs (nI (zrn s))) H im ff = some (Sum.inr (nI (zrn s)), upd hd (zrn s) (nI (zaC (t, s (1 + t), x, y, z) false)), zup bs (zrn s) 0, nI (zrn s + 1), zgh H' (0, -1)) := by
    unfold zaph fX11_addRule
    rw [e1, Option.bind_some]
    show ((fX11_needVariables wd (nI t) (nI x) (nI y) (nI z)).bind _) = _
    rw [e5', Option.bind_some]
    show (if nI (zrn s) < (5 : Int32) then _ else _) = _
    rw [if_pos (by rw [e5, zi_lt (by omega) (by omega)]; omega)]
    show ((zaph (fX11_keepForUndo K wd fa od hd qc qs bc bs (nI (s 0)) (nI (zrn s))) H ff).bind _) = _
    rw [ek1, Option.bind_some]
    show ((fX6_at 5 wd (nI t)).bind fun q59 => (fX1_code (nI t) q59 (nI x) (nI y) (nI z)).bind fun q66 => (fX9_openRule q66 hd bs (nI (zrn s))).bind fun q69 => some ((Sum.inr (q69.2.2 - (1 : Int32)) : Nat ⊕ Int32), (q69.1, q69.2.1, q69.2.2, zgh H' ((0 : Int32), (-1 : Int32))))) = _
    rw [zX6_at wd (show t < 5 by omega) (by omega), Option.bind_some, hwd t ht, zX1_code (by omega) c1 c3 hx hy hz, Option.bind_some, zX9_openRule _ hd bs (show zrn s < 5 by omega), Option.bind_some, hsub]
  refine ⟨(wd, fa, od, upd hd (zrn s) (nI (zaC (t, s (1 + t), x, y, z) false)), qc, qs, bc, zup bs (zrn s) 0, nI (s 0), nI (zrn s + 1), H', q, w, fr, tr, g, re, fi, ro, 0, r, pk, cz, lh, lp, se, md, -1), ?_, hW', zBd_up (zBd_up (zBd_lay hB (by omega) (by omega) (by omega) (by omega)) (by omega)) (by omega), hS', hH', Or.inl rfl, Or.inl rfl⟩
  unfold hX11_addRule
  show ((zaph (fX11_addRule K wd fa od qc qs bc (nI (s 0)) (nI t) (nI x) (nI y) (nI z) hd bs (nI (zrn s))) H im ff).bind _) = _
  rw [ec, Option.bind_some]
  rfl
theorem zd_dropRule (K : Nat) (hK : 1000000 < K) {O : zObj} {s : Nat → Nat} {L : List (Nat → Nat)} (h : zIc O s L) {u : Nat} (hu : u < zrn s) :
    ∃ O', hX11_dropRule K O (nI u) = some (nI (zrn s - 1), O') ∧ zIc O' (zdrop s u) (s :: L.take 9) := by
  obtain ⟨wd, fa, od, hd, qc, qs, bc, bs, tt, rt, H, q, w, fr, tr, g, re, fi, ro, im, r, pk, cz, lh, lp, se, md, ff⟩ := O
  obtain ⟨hW, hB, hS, hH, hg, hff⟩ := h
  have hS : zSR wd fa od hd qc qs bc bs tt rt s := hS
  have hrt : rt = nI (zrn s) := hS.2.2.2.2.2.1
  subst hrt
  have hr5 := hW.2.2.2.2.2.2.1.1
  have e1 := zd_rul hu hr5
  obtain ⟨H', ek1, hH'⟩ := zHl_keep K (by omega) hW hB hS hH ff
  obtain ⟨hd', bc', bs', ec, hc⟩ := zX9_closeRule K (by omega) hu hr5 hd bc bs
  obtain ⟨hW', hS'⟩ := zWF_drop hW hS hu hc
  have hB' : zBd (zdrop s u) := by
    intro i hi
    unfold zdrop
    split
    · have : s 2654 = zrn s := rfl
      omega
    · split
      · exact hB _ (by omega)
      · exact hB _ hi
  have ecc : zaph (fX11_dropRule K wd fa od qc qs tt (nI u) hd bc bs (nI (zrn s))) H im ff = some (Sum.inr (nI (zrn s - 1)), hd', bc', bs', nI (zrn s - 1), zgh H' (0, -1)) := by
    unfold zaph fX11_dropRule
    rw [e1, Option.bind_some]
    show ((zaph (fX11_keepForUndo K wd fa od hd qc qs bc bs tt (nI (zrn s))) H ff).bind _) = _
    rw [ek1, Option.bind_some]
    show ((fX9_closeRule K (nI u) hd bc bs (nI (zrn s))).bind fun q21 => some ((Sum.inr q21.2.2.2 : Nat ⊕ Int32), (q21.1, q21.2.1, q21.2.2.1, q21.2.2.2, zgh H' ((0 : Int32), (-1 : Int32))))) = _
    rw [ec, Option.bind_some]
  refine ⟨(wd, fa, od, hd', qc, qs, bc', bs', tt, nI (zrn s - 1), H', q, w, fr, tr, g, re, fi, ro, 0, r, pk, cz, lh, lp, se, md, -1), ?_, hW', hB', hS', hH', Or.inl rfl, Or.inl rfl⟩
  unfold hX11_dropRule
  show ((zaph (fX11_dropRule K wd fa od qc qs tt (nI u) hd bc bs (nI (zrn s))) H im ff).bind _) = _
  rw [ecc, Option.bind_some]
  rfl
theorem zd_undo (K : Nat) (hK : 1000000 < K) {O : zObj} {s s1 : Nat → Nat} {L : List (Nat → Nat)} (h : zIc O s (s1 :: L)) :
    ∃ O', hX11_undo K O = some (nI L.length, O') ∧ zIc O' s1 L := by
  obtain ⟨wd, fa, od, hd, qc, qs, bc, bs, tt, rt, ⟨pw, pf, po, ph, pqc, pqs, pbc, pbs, pt, pr, nx, kp⟩, q, w, fr, tr, g, re, fi, ro, im, r, pk, cz, lh, lp, se, md, ff⟩ := O
  obtain ⟨hW, hB, hS, hH, hg, hff⟩ := h
  have hS : zSR wd fa od hd qc qs bc bs tt rt s := hS
  obtain ⟨n, e1, e2, hn, hk, hh⟩ := hH
  have e1' : nx = nI n := e1
  have e2' : kp = nI (L.length + 1) := e2
  subst e1'
  subst e2'
  have hk10 : L.length + 1 ≤ 10 := hk
  obtain ⟨q1, q2, q3⟩ := hh 0 s1 rfl
  have hm : (n + 9) % 10 < 10 := Nat.mod_lt _ (by decide)
  have q3' : zSR (pw ((n + 9) % 10)) (pf ((n + 9) % 10)) (po ((n + 9) % 10)) (ph ((n + 9) % 10)) (pqc ((n + 9) % 10)) (pqs ((n + 9) % 10)) (pbc ((n + 9) % 10)) (pbs ((n + 9) % 10)) (pt ((n + 9) % 10)) (pr ((n + 9) % 10)) s1 := q3
  obtain ⟨wd', fa', od', hd', qc', qs', bc', bs', ec, p1, p2, p3, p4, p5, p6⟩ := zX9_copyFrom K (by omega) (pw ((n + 9) % 10)) (pf ((n + 9) % 10)) (po ((n + 9) % 10)) (ph ((n + 9) % 10)) (pqc ((n + 9) % 10)) (pqs ((n + 9) % 10)) (pbc ((n + 9) % 10)) (pbs ((n + 9) % 10)) (pt ((n + 9) % 10)) (pr ((n + 9) % 10)) wd fa od hd qc qs bc bs tt rt
  have o1 : (1 : Int32) = nI 1 := rfl
  have ek : nI (L.length + 1) - (1 : Int32) = nI L.length := by rw [o1, zi_sub (by omega)]; rfl
  have eb : fX5_bringBack K pw pf po ph pqc pqs pbc pbs pt pr (nI n) (nI (L.length + 1)) wd fa od hd qc qs bc bs tt rt = some (nI ((n + 9) % 10), nI L.length, wd', fa', od', hd', qc', qs', bc', bs', pt ((n + 9) % 10), pr ((n + 9) % 10)) := by
    have f19 : fX5_bringBack_19 K pw pf po ph pqc pqs pbc pbs pt pr (nI ((n + 9) % 10)) (nI n) (nI (L.length + 1)) wd fa od hd qc qs bc bs tt rt = some (nI ((n + 9) % 10), nI L.length, wd', fa', od', hd', qc', qs', bc', bs', pt ((n + 9) % 10), pr ((n + 9) % 10)) := by
      unfold fX5_bringBack_19
      rw [zX5_slotAt hm, Option.bind_some, if_pos hm, ec, Option.bind_some]
      unfold fX5_bringBack_40
      rw [ek]
    unfold fX5_bringBack
    by_cases g : n = 0
    · subst g
      rw [if_neg (show ¬ (0 : Int32) < nI 0 by decide)]
      exact f19
    · rw [if_pos (show (0 : Int32) < nI n by rw [show (0 : Int32) = nI 0 from rfl, zi_lt (by omega) (by omega)]; omega), show nI n - (1 : Int32) = nI ((n + 9) % 10) by rw [o1, zi_sub (by omega), show (n + 9) % 10 = n - 1 by omega]]
      exact f19
  have ne0 : ¬ nI (L.length + 1) = 0 := by rw [show (0 : Int32) = nI 0 from rfl, zi_eq (by omega) (by omega)]; omega
  have eu : fX11_undo K pw pf po ph pqc pqs pbc pbs pt pr wd fa od hd qc qs bc bs tt rt (nI n) (nI (L.length + 1)) im ff = some (nI L.length, wd', fa', od', hd', qc', qs', bc', bs', pt ((n + 9) % 10), pr ((n + 9) % 10), nI ((n + 9) % 10), nI L.length, 0, -1) := by
    unfold fX11_undo
    rw [if_neg ne0, eb, Option.bind_some]
    rfl
  refine ⟨(wd', fa', od', hd', qc', qs', bc', bs', pt ((n + 9) % 10), pr ((n + 9) % 10), (pw, pf, po, ph, pqc, pqs, pbc, pbs, pt, pr, nI ((n + 9) % 10), nI L.length), q, w, fr, tr, g, re, fi, ro, 0, r, pk, cz, lh, lp, se, md, -1), ?_, q1, q2, zSR_copy q1 q3' p1 p2 p3 p4 p5 p6, ?_, Or.inl rfl, Or.inl rfl⟩
  · unfold hX11_undo
    show ((fX11_undo K pw pf po ph pqc pqs pbc pbs pt pr wd fa od hd qc qs bc bs tt rt (nI n) (nI (L.length + 1)) im ff).bind _) = _
    rw [eu, Option.bind_some]
  · refine ⟨(n + 9) % 10, rfl, rfl, hm, by omega, ?_⟩
    intro j s' hj
    obtain ⟨r1, r2, r3⟩ := hh (j + 1) s' hj
    have en : ((n + 9) % 10 + 9 - j) % 10 = (n + 9 - (j + 1)) % 10 := by
      have hj10 : j < L.length := by
        rcases Nat.lt_or_ge j L.length with g | g
        · exact g
        · rw [List.getElem?_eq_none_iff.2 g] at hj
          exact absurd hj (by simp)
      omega
    refine ⟨r1, r2, ?_⟩
    rw [en]
    exact r3
