/-! an object against its told state alone: what is kept -/
noncomputable def zMs (s : Nat → Nat) : Nat → Nat := Classical.epsilon (zLst (zE s))
theorem zMs_ok {s : Nat → Nat} (hW : zWF s) : zLst (zE s) (zMs s) ∧ ∀ t, t < 5 → zMs s t ≤ 4 := by
  obtain ⟨M, hM, _⟩ := zWF_M hW
  have h : zLst (zE s) (zMs s) := Classical.epsilon_spec ⟨M, hM⟩
  exact ⟨h, fun t ht => zLst_4 (zE_ok hW.2.2.2.2.2.2.1) h ht⟩
theorem zMs_E {s s' : Nat → Nat} (h : zE s' = zE s) : zMs s' = zMs s := by
  unfold zMs
  rw [h]
noncomputable def zRw (s : Nat → Nat) : Nat → Nat → Bool := (zly s (zMs s) 5).1
/-- no cell is too large -/
def zBd (s : Nat → Nat) : Prop := ∀ i, i < 2780 → s i < 10000
theorem zBd_up {s : Nat → Nat} (h : zBd s) {p v : Nat} (hv : v < 10000) : zBd (zup s p v) := by
  intro i hi
  unfold zup
  split
  · exact hv
  · exact h i hi
theorem zBd_lay {s : Nat → Nat} (h : zBd s) {p t x y z : Nat} (ht : t < 10000) (hx : x < 10000) (hy : y < 10000) (hz : z < 10000) : zBd (zlay s p t x y z) := zBd_up (zBd_up (zBd_up (zBd_up h ht) hx) hy) hz
/-- the states kept, the newest first -/
def zHl (H : zH12) (L : List (Nat → Nat)) : Prop :=
  ∃ n, H.2.2.2.2.2.2.2.2.2.2.1 = nI n ∧ H.2.2.2.2.2.2.2.2.2.2.2 = nI L.length ∧ n < 10 ∧ L.length ≤ 10 ∧ ∀ j s, L[j]? = some s → zWF s ∧ zBd s ∧ zSR (H.1 ((n + 9 - j) % 10)) (H.2.1 ((n + 9 - j) % 10)) (H.2.2.1 ((n + 9 - j) % 10)) (H.2.2.2.1 ((n + 9 - j) % 10)) (H.2.2.2.2.1 ((n + 9 - j) % 10)) (H.2.2.2.2.2.1 ((n + 9 - j) % 10)) (H.2.2.2.2.2.2.1 ((n + 9 - j) % 10)) (H.2.2.2.2.2.2.2.1 ((n + 9 - j) % 10)) (H.2.2.2.2.2.2.2.2.1 ((n + 9 - j) % 10)) (H.2.2.2.2.2.2.2.2.2.1 ((n + 9 - j) % 10)) s
theorem zHl_keep (K : Nat) (hK : 100 < K) {wd : Nat → Int32} {fa : Nat → Int64} {od hd : Nat → Int32} {qc : Nat → Nat → Int32} {qs : Nat → Int32} {bc : Nat → Nat → Int32} {bs : Nat → Int32} {tt rt : Int32} {s : Nat → Nat} (hWF : zWF s) (hB : zBd s) (hS : zSR wd fa od hd qc qs bc bs tt rt s) {H : zH12} {L : List (Nat → Nat)} (hH : zHl H L) (ff : Int32) :
    ∃ H', zaph (fX11_keepForUndo K wd fa od hd qc qs bc bs tt rt) H ff = some (zgh H' (-1)) ∧ zHl H' (s :: L.take 9) := by
  obtain ⟨pw, pf, po, ph, pqc, pqs, pbc, pbs, pt, pr, nx, kp⟩ := H
  obtain ⟨n, e1, e2, hn, hk, hh⟩ := hH
  have e1' : nx = nI n := e1
  have e2' : kp = nI L.length := e2
  subst e1'
  subst e2'
  obtain ⟨wd', fa', od', hd', qc', qs', bc', bs', ec, p1, p2, p3, p4, p5, p6⟩ := zX9_copyFrom K hK wd fa od hd qc qs bc bs tt rt (pw n) (pf n) (po n) (ph n) (pqc n) (pqs n) (pbc n) (pbs n) (pt n) (pr n)
  have hS' := zSR_copy hWF hS p1 p2 p3 p4 p5 p6
  have e1 : (1 : Int32) = nI 1 := rfl
  have e10 : (10 : Int32) = nI 10 := rfl
  have hlen : (s :: L.take 9).length = if L.length = 10 then 10 else L.length + 1 := by
    rw [List.length_cons, List.length_take]
    split <;> omega
  refine ⟨(zup pw n wd', zup pf n fa', zup po n od', zup ph n hd', zup pqc n qc', zup pqs n qs', zup pbc n bc', zup pbs n bs', zup pt n tt, zup pr n rt, nI ((n + 1) % 10), nI (if L.length = 10 then 10 else L.length + 1)), ?_, ?_⟩
  · have f40 : ∀ t1, fX5_keep_40 K wd fa od hd qc qs bc bs tt rt t1 (zup pw n wd') (zup pf n fa') (zup po n od') (zup ph n hd') (zup pqc n qc') (zup pqs n qs') (zup pbc n bc') (zup pbs n bs') (zup pt n tt) (zup pr n rt) (nI n) (nI L.length) = some (zup pw n wd', zup pf n fa', zup po n od', zup ph n hd', zup pqc n qc', zup pqs n qs', zup pbc n bc', zup pbs n bs', zup pt n tt, zup pr n rt, t1, nI (if L.length = 10 then 10 else L.length + 1)) := by
      intro t1
      unfold fX5_keep_40
      by_cases g : L.length = 10
      · rw [if_pos g, g, if_pos (by decide)]; rfl
      · rw [if_neg (by rw [e10, zi_le (by omega) (by omega)]; omega), if_neg g, ← nI_succ]
    unfold zaph fX11_keepForUndo
    show ((fX5_keep K wd fa od hd qc qs bc bs tt rt pw pf po ph pqc pqs pbc pbs pt pr (nI n) (nI L.length)).bind _) = _
    have ek : fX5_keep K wd fa od hd qc qs bc bs tt rt pw pf po ph pqc pqs pbc pbs pt pr (nI n) (nI L.length) = some (zup pw n wd', zup pf n fa', zup po n od', zup ph n hd', zup pqc n qc', zup pqs n qs', zup pbc n bc', zup pbs n bs', zup pt n tt, zup pr n rt, nI ((n + 1) % 10), nI (if L.length = 10 then 10 else L.length + 1)) := by
      unfold fX5_keep
      rw [zX5_slotAt hn, Option.bind_some, if_pos hn, ec, Option.bind_some]
      show fX5_keep_18 K wd fa od hd qc qs bc bs tt rt (zup pw n wd') (zup pf n fa') (zup po n od') (zup ph n hd') (zup pqc n qc') (zup pqs n qs') (zup pbc n bc') (zup pbs n bs') (zup pt n tt) (zup pr n rt) (nI n) (nI L.length) = _
      unfold fX5_keep_18
      rw [f40, f40, ← nI_succ]
      by_cases g : n + 1 < 10
      · rw [if_pos (by rw [e10, zi_lt (by omega) (by omega)]; exact g), Nat.mod_eq_of_lt g]
      · rw [if_neg (by rw [e10, zi_lt (by omega) (by omega)]; exact g), show n = 9 by omega]; rfl
    rw [ek]
    rfl
  · refine ⟨(n + 1) % 10, rfl, by rw [hlen], by omega, by rw [hlen]; split <;> omega, ?_⟩
    intro j s' hj
    cases j with
    | zero =>
      have hs : s = s' := Option.some.inj hj
      subst hs
      have en : ((n + 1) % 10 + 9 - 0) % 10 = n := by omega
      show zWF s ∧ zBd s ∧ zSR (zup pw n wd' (((n + 1) % 10 + 9 - 0) % 10)) (zup pf n fa' (((n + 1) % 10 + 9 - 0) % 10)) (zup po n od' (((n + 1) % 10 + 9 - 0) % 10)) (zup ph n hd' (((n + 1) % 10 + 9 - 0) % 10)) (zup pqc n qc' (((n + 1) % 10 + 9 - 0) % 10)) (zup pqs n qs' (((n + 1) % 10 + 9 - 0) % 10)) (zup pbc n bc' (((n + 1) % 10 + 9 - 0) % 10)) (zup pbs n bs' (((n + 1) % 10 + 9 - 0) % 10)) (zup pt n tt (((n + 1) % 10 + 9 - 0) % 10)) (zup pr n rt (((n + 1) % 10 + 9 - 0) % 10)) s
      rw [en, zup_at, zup_at, zup_at, zup_at, zup_at, zup_at, zup_at, zup_at, zup_at, zup_at]
      exact ⟨hWF, hB, hS'⟩
    | succ j =>
      have hj' : (L.take 9)[j]? = some s' := hj
      have hj9 : j < 9 ∧ L[j]? = some s' := by
        rw [List.getElem?_take] at hj'
        by_cases g : j < 9
        · rw [if_pos g] at hj'
          exact ⟨g, hj'⟩
        · rw [if_neg g] at hj'
          exact absurd hj' (by simp)
      obtain ⟨q1, q2, q3⟩ := hh j s' hj9.2
      have en : ((n + 1) % 10 + 9 - (j + 1)) % 10 = (n + 9 - j) % 10 := by omega
      have ne : (n + 9 - j) % 10 ≠ n := by omega
      refine ⟨q1, q2, ?_⟩
      show zSR (zup pw n wd' (((n + 1) % 10 + 9 - (j + 1)) % 10)) (zup pf n fa' (((n + 1) % 10 + 9 - (j + 1)) % 10)) (zup po n od' (((n + 1) % 10 + 9 - (j + 1)) % 10)) (zup ph n hd' (((n + 1) % 10 + 9 - (j + 1)) % 10)) (zup pqc n qc' (((n + 1) % 10 + 9 - (j + 1)) % 10)) (zup pqs n qs' (((n + 1) % 10 + 9 - (j + 1)) % 10)) (zup pbc n bc' (((n + 1) % 10 + 9 - (j + 1)) % 10)) (zup pbs n bs' (((n + 1) % 10 + 9 - (j + 1)) % 10)) (zup pt n tt (((n + 1) % 10 + 9 - (j + 1)) % 10)) (zup pr n rt (((n + 1) % 10 + 9 - (j + 1)) % 10)) s'
      rw [en, zup_ne _ _ ne, zup_ne _ _ ne, zup_ne _ _ ne, zup_ne _ _ ne, zup_ne _ _ ne, zup_ne _ _ ne, zup_ne _ _ ne, zup_ne _ _ ne, zup_ne _ _ ne, zup_ne _ _ ne]
      exact q3
/-- the object is as told -/
def zIk (wd : Nat → Int32) (fa : Nat → Int64) (od hd : Nat → Int32) (qc : Nat → Nat → Int32) (qs : Nat → Int32) (bc : Nat → Nat → Int32) (bs : Nat → Int32) (tt rt : Int32) (H : zH12) (w : Nat → Int64) (g re fi : Nat → Int32) (ro im : Int32) (r : zR15) (ff : Int32) (s : Nat → Nat) (L : List (Nat → Nat)) : Prop :=
  zWF s ∧ zBd s ∧ zSR wd fa od hd qc qs bc bs tt rt s ∧ zHl H L ∧ (im = 0 ∨ im = 1 ∧ zGn s (zMs s) w g re fi ro) ∧ zFo s w im r ff
def zIc (O : zObj) (s : Nat → Nat) (L : List (Nat → Nat)) : Prop :=
  zIk O.1 O.2.1 O.2.2.1 O.2.2.2.1 O.2.2.2.2.1 O.2.2.2.2.2.1 O.2.2.2.2.2.2.1 O.2.2.2.2.2.2.2.1 O.2.2.2.2.2.2.2.2.1 O.2.2.2.2.2.2.2.2.2.1 O.2.2.2.2.2.2.2.2.2.2.1 O.2.2.2.2.2.2.2.2.2.2.2.2.1 O.2.2.2.2.2.2.2.2.2.2.2.2.2.2.2.1 O.2.2.2.2.2.2.2.2.2.2.2.2.2.2.2.2.1 O.2.2.2.2.2.2.2.2.2.2.2.2.2.2.2.2.2.1 O.2.2.2.2.2.2.2.2.2.2.2.2.2.2.2.2.2.2.1 O.2.2.2.2.2.2.2.2.2.2.2.2.2.2.2.2.2.2.2.1 O.2.2.2.2.2.2.2.2.2.2.2.2.2.2.2.2.2.2.2.2.1 O.2.2.2.2.2.2.2.2.2.2.2.2.2.2.2.2.2.2.2.2.2.2.2.2.2.2.2 s L
/-- grown as before, or anew: the object stays as told -/
theorem zIk_ga {wd : Nat → Int32} {fa : Nat → Int64} {od hd : Nat → Int32} {qc : Nat → Nat → Int32} {qs : Nat → Int32} {bc : Nat → Nat → Int32} {bs : Nat → Int32} {tt rt : Int32} {H : zH12} {w : Nat → Int64} {g re fi : Nat → Int32} {ro im : Int32} {r : zR15} {ff : Int32} {s : Nat → Nat} {L : List (Nat → Nat)} (h : zIk wd fa od hd qc qs bc bs tt rt H w g re fi ro im r ff s L) {w' : Nat → Int64} {g' re' fi' : Nat → Int32} {ro' im' : Int32} {r' : zR15} {ff' : Int32} (ha : zGa s (zMs s) w g re fi ro im w' g' re' fi' ro' im') (hf : zFo s w' im' r' ff') : zIk wd fa od hd qc qs bc bs tt rt H w' g' re' fi' ro' im' r' ff' s L := by
  obtain ⟨h1, h2, h3, h4, h5, _⟩ := h
  refine ⟨h1, h2, h3, h4, ?_, hf⟩
  rcases ha with ⟨rfl, rfl, rfl, rfl, rfl, rfl⟩ | ⟨rfl, b, _⟩
  · exact h5
  · exact Or.inr ⟨rfl, b⟩
theorem zFo_ga {s : Nat → Nat} {M : Nat → Nat} {w : Nat → Int64} {g re fi : Nat → Int32} {ro im : Int32} {w' : Nat → Int64} {g' re' fi' : Nat → Int32} {ro' im' : Int32} (ha : zGa s M w g re fi ro im w' g' re' fi' ro' im') {r : zR15} {ff : Int32} (hf : zFo s w im r ff) : zFo s w' im' r ff := by
  rcases ha with ⟨rfl, rfl, _⟩ | ⟨rfl, _, c⟩
  · exact hf
  · rcases hf with h | ⟨q, a1, a2, a3, a4⟩
    · exact Or.inl h
    · exact Or.inr ⟨q, a1, a2, rfl, by rw [c a3]; exact a4⟩
/-- rows and rules as they were -/
theorem zIk_same {wd : Nat → Int32} {fa : Nat → Int64} {od hd : Nat → Int32} {qc : Nat → Nat → Int32} {qs : Nat → Int32} {bc : Nat → Nat → Int32} {bs : Nat → Int32} {tt rt : Int32} {s s' : Nat → Nat} (hW : zWF s) {w : Nat → Int64} {g re fi : Nat → Int32} {ro im : Int32} (hg : im = 0 ∨ im = 1 ∧ zGn s (zMs s) w g re fi ro) {H : zH12} {L : List (Nat → Nat)} (r : zR15) (hW' : zWF s') (hB' : zBd s') (hS' : zSR wd fa od hd qc qs bc bs tt rt s') (hR : zsmR s s') (hf : ∀ t k, t < 5 → k < 512 → zfacts s' t k = zfacts s t k) (hH : zHl H L) : zIk wd fa od hd qc qs bc bs tt rt H w g re fi ro im r (-1) s' L := by
  have hs := hW.2.2.2.2.2.2.1
  have hE : zE s' = zE s := by
    funext a u w
    exact propext (zE_same hR a u w)
  refine ⟨hW', hB', hS', hH, ?_, Or.inl rfl⟩
  rcases hg with h | ⟨h1, h2⟩
  · exact Or.inl h
  · refine Or.inr ⟨h1, ?_⟩
    rw [zMs_E hE]
    exact zR_Gn hR hs (fun t k ht hk => hf t k ht hk) h2
theorem zRw_same {s s' : Nat → Nat} (hW : zWF s) (hR : zsmR s s') (hf : ∀ t k, t < 5 → k < 512 → zfacts s' t k = zfacts s t k) : zMs s' = zMs s ∧ zeqR (zRw s') (zRw s) := by
  have hs := hW.2.2.2.2.2.2.1
  have hE : zE s' = zE s := by
    funext a u w
    exact propext (zE_same hR a u w)
  refine ⟨zMs_E hE, ?_⟩
  unfold zRw
  rw [zMs_E hE]
  exact (zR_ly hR hs (fun t k ht hk => hf t k ht hk) (zMs s) 5).1
/-! what a call asks first, where it may be -/
theorem zd_tab {T t : Nat} (h : t < T) (hT : T ≤ 5) : fX11_needTable (nI T) (nI t) = some (.inr (), ()) := by
  unfold fX11_needTable
  rw [if_neg (nI_pos (by omega)), if_pos (by rw [zi_lt (by omega) (by omega)]; exact h)]
theorem zd_rul {T t : Nat} (h : t < T) (hT : T ≤ 5) : fX11_needRule (nI T) (nI t) = some (.inr (), ()) := by
  unfold fX11_needRule
  rw [if_neg (nI_pos (by omega)), if_pos (by rw [zi_lt (by omega) (by omega)]; exact h)]
theorem zd_que {q : Nat} (h : q < 4) : fX11_needQuery (nI q) = some (.inr (), ()) := by
  unfold fX11_needQuery
  rw [if_neg (nI_pos (by omega)), if_pos (by rw [show (4 : Int32) = nI 4 from rfl, zi_lt (by omega) (by omega)]; exact h)]
theorem zd_cols {w L x y z : Nat} (hw : w ≤ 3) (hL : L < 100) (hx : x < L) (hy : if 1 < w then y < L else y = 0) (hz : if 2 < w then z < L else z = 0) : fX11_areInColumns (nI w) (nI L) (nI x) (nI y) (nI z) = some true := by
  have e1 : (1 : Int32) = nI 1 := rfl
  have e2 : (2 : Int32) = nI 2 := rfl
  have hy' : y < if 1 < w then L else 1 := by
    by_cases g : 1 < w
    · rw [if_pos g] at hy ⊢; exact hy
    · rw [if_neg g] at hy ⊢; omega
  have hz' : z < if 2 < w then L else 1 := by
    by_cases g : 2 < w
    · rw [if_pos g] at hz ⊢; exact hz
    · rw [if_neg g] at hz ⊢; omega
  have hN1 : (if 1 < w then L else 1) < 1000 := by split <;> omega
  have hN2 : (if 2 < w then L else 1) < 1000 := by split <;> omega
  have eA : fX11_areInColumns (nI w) (nI L) (nI x) (nI y) (nI z) = fX11_areInColumns_22 (nI w) (nI L) (nI x) (nI y) (nI z) (nI (if 1 < w then L else 1)) (nI (if 2 < w then L else 1)) := by
    unfold fX11_areInColumns fX11_areInColumns_10
    by_cases g1 : 1 < w
    · rw [if_neg (by rw [e1, zi_le (by omega) (by omega)]; omega), if_pos g1]
      by_cases g2 : 2 < w
      · rw [if_neg (by rw [e2, zi_le (by omega) (by omega)]; omega), if_pos g2]
      · rw [if_pos (by rw [e2, zi_le (by omega) (by omega)]; omega), if_neg g2]; rfl
    · rw [if_pos (by rw [e1, zi_le (by omega) (by omega)]; omega), if_neg g1, if_pos (by rw [e2, zi_le (by omega) (by omega)]; omega), if_neg (by omega)]; rfl
  rw [eA]
  unfold fX11_areInColumns_22
  rw [if_neg (nI_pos (by omega)), if_neg (by rw [zi_le (by omega) (by omega)]; omega), if_neg (nI_pos (by omega)), if_neg (by rw [zi_le (by omega) (by omega)]; omega), if_neg (nI_pos (by omega)), if_neg (by rw [zi_le (by omega) (by omega)]; omega)]
/-- values in the columns of a table -/
def zvl (L w x y z : Nat) : Prop := x < L ∧ (if 1 < w then y < L else y = 0) ∧ (if 2 < w then z < L else z = 0)
theorem zd_row {s : Nat → Nat} (hW : zWF s) {wd : Nat → Int32} (hwd : ∀ t, t < s 0 → wd t = nI (s (1 + t))) {t : Nat} (ht : t < s 0) {x y z : Nat} (h : zvl 8 (s (1 + t)) x y z) : fX11_needRow wd (nI t) (nI x) (nI y) (nI z) = some (.inr (), ()) ∧ fX11_rowOf (nI x) (nI y) (nI z) = some (nI (64 * x + 8 * y + z)) ∧ 64 * x + 8 * y + z < 512 ∧ zin (s (1 + t)) (64 * x + 8 * y + z) := by
  have h5 := hW.1
  obtain ⟨c1, c3⟩ := hW.2.1 t ht
  obtain ⟨hx, hy, hz⟩ := h
  obtain ⟨y8, z8, hk, hzin⟩ := zin_row hx hy hz
  refine ⟨?_, zrow_of hx y8 z8, hk, hzin⟩
  unfold fX11_needRow
  have e := zd_cols c3 (by omega) hx hy hz
  have e1 : fX11_areInColumns (nI (s (1 + t))) (8 : Int32) (nI x) (nI y) (nI z) = some true := e
  rw [zX6_at wd (show t < 5 by omega) (by omega), Option.bind_some, hwd t ht, e1, Option.bind_some, if_neg (show ¬ bI true = 0 by decide)]
theorem zd_vars {s : Nat → Nat} (hW : zWF s) {wd : Nat → Int32} (hwd : ∀ t, t < s 0 → wd t = nI (s (1 + t))) {t : Nat} (ht : t < s 0) {x y z : Nat} (h : zvl 4 (s (1 + t)) x y z) : fX11_needVariables wd (nI t) (nI x) (nI y) (nI z) = some (.inr (), ()) ∧ x < 4 ∧ y < 4 ∧ z < 4 := by
  have h5 := hW.1
  obtain ⟨c1, c3⟩ := hW.2.1 t ht
  obtain ⟨hx, hy, hz⟩ := h
  have e := zd_cols c3 (by omega) hx hy hz
  have e1 : fX11_areInColumns (nI (s (1 + t))) (4 : Int32) (nI x) (nI y) (nI z) = some true := e
  refine ⟨?_, hx, by split at hy <;> omega, by split at hz <;> omega⟩
  unfold fX11_needVariables
  rw [zX6_at wd (show t < 5 by omega) (by omega), Option.bind_some, hwd t ht, e1, Option.bind_some, if_neg (show ¬ bI true = 0 by decide)]
