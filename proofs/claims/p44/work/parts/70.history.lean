/-! what is kept for undo -/
def zHist (pw : Nat → Nat → Int32) (pf : Nat → Nat → Int64) (po ph : Nat → Nat → Int32) (pqc : Nat → Nat → Nat → Int32) (pqs : Nat → Nat → Int32) (pbc : Nat → Nat → Nat → Int32) (pbs : Nat → Nat → Int32) (pt pr : Nat → Int32) (nx kp : Int32) (before : Nat → Int32) (ch : Int32) : Prop :=
  ∃ (n k : Nat) (H : Nat → Nat → Nat), nx = nI n ∧ kp = nI k ∧ ch = nI k ∧ n < 10 ∧ k ≤ 10 ∧ ∀ j, 1 ≤ j → j ≤ k → zWF (H j) ∧ zM (fun i => before ((k - j) * 2780 + i)) (H j) ∧
    zSR (pw ((n + 10 - j) % 10)) (pf ((n + 10 - j) % 10)) (po ((n + 10 - j) % 10)) (ph ((n + 10 - j) % 10)) (pqc ((n + 10 - j) % 10)) (pqs ((n + 10 - j) % 10)) (pbc ((n + 10 - j) % 10)) (pbs ((n + 10 - j) % 10)) (pt ((n + 10 - j) % 10)) (pr ((n + 10 - j) % 10)) (H j)
theorem zX5_slotAt {n : Nat} (h : n < 10) : fX5_slotAt (nI n) = some n := by
  unfold fX5_slotAt
  rw [if_neg (nI_pos (by omega)), if_neg (by rw [show (10 : Int32) = nI 10 from rfl, zi_le (by omega) (by omega)]; omega), if_pos (by rw [zi_inB (by omega)]; exact h), zi_clamp (by omega)]
/-- the reference keeps -/
theorem zX12_keeps (now before : Nat → Int32) {k : Nat} (hk : k ≤ 10) : ∃ before', fX12_keeps now before (nI k) = some (before', nI (if k = 10 then 10 else k + 1)) ∧ (∀ i, i < 2780 → before' ((if k = 10 then 9 else k) * 2780 + i) = now i) ∧ ∀ e i, i < 2780 → e < (if k = 10 then 9 else k) → before' (e * 2780 + i) = before ((if k = 10 then e + 1 else e) * 2780 + i) := by
  have z1 : ∀ e : Fin 10, zcp (0 : Int32) (nI e.val * (2780 : Int32)) (2780 : Int32) 2780 27800 = true := by decide
  have c1 : ∀ e : Fin 10, (nI e.val * (2780 : Int32)).toNatClampNeg = e.val * 2780 := by decide
  have c2 : (2780 : Int32).toNatClampNeg = 2780 := by decide
  have c0 : (0 : Int32).toNatClampNeg = 0 := by decide
  have c3 : (25020 : Int32).toNatClampNeg = 25020 := by decide
  have base : ∀ (b : Nat → Int32) {e : Nat}, e < 10 → fX12_keeps_37 now b (nI e) = some (va_cpy now b 0 (e * 2780) 2780, nI (e + 1)) := by
    intro b e he
    unfold fX12_keeps_37
    rw [if_pos (z1 ⟨e, he⟩), c1 ⟨e, he⟩, c2, c0, ← nI_succ]
  unfold fX12_keeps
  by_cases g : k = 10
  · subst g
    rw [if_pos (show nI 10 = (10 : Int32) from rfl), if_pos (by decide), c2, c0, c3, show nI 10 - (1 : Int32) = nI 9 from rfl, base _ (by omega), if_pos rfl, if_pos rfl]
    refine ⟨_, rfl, ?_, ?_⟩
    · intro i hi
      rw [pk_cpy_in (by omega) (by omega), Nat.add_sub_cancel_left, Nat.zero_add]
    · intro e i hi he
      rw [if_pos rfl, pk_cpy_out (Or.inl (by omega)), pk_cpy_in (by omega) (by omega)]
      congr 1; omega
  · rw [if_neg (by rw [show (10 : Int32) = nI 10 from rfl, zi_eq (by omega) (by omega)]; exact g), base _ (by omega), if_neg g, if_neg g]
    refine ⟨_, rfl, ?_, ?_⟩
    · intro i hi
      rw [pk_cpy_in (by omega) (by omega), Nat.add_sub_cancel_left, Nat.zero_add]
    · intro e i hi he
      rw [if_neg g, pk_cpy_out (Or.inl (by
        have : e * 2780 + 2780 ≤ k * 2780 := by
          have := Nat.mul_le_mul_right 2780 (show e + 1 ≤ k from he)
          omega
        omega))]
theorem zup_at {α : Type} (f : Nat → α) (i : Nat) (x : α) : zup f i x i = x := if_pos rfl
theorem zup_ne {α : Type} (f : Nat → α) {i j : Nat} (x : α) (h : j ≠ i) : zup f i x j = f j := if_neg h
theorem zKeep (K : Nat) (hK : 100 < K) {wd : Nat → Int32} {fa : Nat → Int64} {od hd : Nat → Int32} {qc : Nat → Nat → Int32} {qs : Nat → Int32} {bc : Nat → Nat → Int32} {bs : Nat → Int32} {tt rt : Int32} {s : Nat → Nat} (hWF : zWF s) (hS : zSR wd fa od hd qc qs bc bs tt rt s)
    {pw : Nat → Nat → Int32} {pf : Nat → Nat → Int64} {po ph : Nat → Nat → Int32} {pqc : Nat → Nat → Nat → Int32} {pqs : Nat → Nat → Int32} {pbc : Nat → Nat → Nat → Int32} {pbs : Nat → Nat → Int32} {pt pr : Nat → Int32} {nx kp : Int32} {before : Nat → Int32} {ch : Int32} (hH : zHist pw pf po ph pqc pqs pbc pbs pt pr nx kp before ch) {now : Nat → Int32} (hM : zM now s) :
    ∃ pw' pf' po' ph' pqc' pqs' pbc' pbs' pt' pr' nx' kp' before' ch', fX5_keep K wd fa od hd qc qs bc bs tt rt pw pf po ph pqc pqs pbc pbs pt pr nx kp = some (pw', pf', po', ph', pqc', pqs', pbc', pbs', pt', pr', nx', kp') ∧ fX12_keeps now before ch = some (before', ch') ∧ zHist pw' pf' po' ph' pqc' pqs' pbc' pbs' pt' pr' nx' kp' before' ch' := by
  obtain ⟨n, k, H, rfl, rfl, rfl, hn, hk, hh⟩ := hH
  obtain ⟨wd', fa', od', hd', qc', qs', bc', bs', ec, p1, p2, p3, p4, p5, p6⟩ := zX9_copyFrom K hK wd fa od hd qc qs bc bs tt rt (pw n) (pf n) (po n) (ph n) (pqc n) (pqs n) (pbc n) (pbs n) (pt n) (pr n)
  obtain ⟨before', ek, b1, b2⟩ := zX12_keeps now before hk
  have hS' := zSR_copy hWF hS p1 p2 p3 p4 p5 p6
  have e1 : (1 : Int32) = nI 1 := rfl
  have e10 : (10 : Int32) = nI 10 := rfl
  refine ⟨zup pw n wd', zup pf n fa', zup po n od', zup ph n hd', zup pqc n qc', zup pqs n qs', zup pbc n bc', zup pbs n bs', zup pt n tt, zup pr n rt, nI ((n + 1) % 10), nI (if k = 10 then 10 else k + 1), before', nI (if k = 10 then 10 else k + 1), ?_, ek, ?_⟩
  · have f40 : ∀ t1, fX5_keep_40 K wd fa od hd qc qs bc bs tt rt t1 (zup pw n wd') (zup pf n fa') (zup po n od') (zup ph n hd') (zup pqc n qc') (zup pqs n qs') (zup pbc n bc') (zup pbs n bs') (zup pt n tt) (zup pr n rt) (nI n) (nI k) = some (zup pw n wd', zup pf n fa', zup po n od', zup ph n hd', zup pqc n qc', zup pqs n qs', zup pbc n bc', zup pbs n bs', zup pt n tt, zup pr n rt, t1, nI (if k = 10 then 10 else k + 1)) := by
      intro t1
      unfold fX5_keep_40
      by_cases g : k = 10
      · subst g
        rw [if_pos (by decide), if_pos rfl]; rfl
      · rw [if_neg (by rw [e10, zi_le (by omega) (by omega)]; omega), if_neg g, ← nI_succ]
    unfold fX5_keep
    rw [zX5_slotAt hn, Option.bind_some, if_pos hn, ec, Option.bind_some]
    show fX5_keep_18 K wd fa od hd qc qs bc bs tt rt (zup pw n wd') (zup pf n fa') (zup po n od') (zup ph n hd') (zup pqc n qc') (zup pqs n qs') (zup pbc n bc') (zup pbs n bs') (zup pt n tt) (zup pr n rt) (nI n) (nI k) = _
    unfold fX5_keep_18
    rw [f40, f40, ← nI_succ]
    by_cases g : n + 1 < 10
    · rw [if_pos (by rw [e10, zi_lt (by omega) (by omega)]; exact g), Nat.mod_eq_of_lt g]
    · rw [if_neg (by rw [e10, zi_lt (by omega) (by omega)]; exact g), show n = 9 by omega]; rfl
  · refine ⟨(n + 1) % 10, if k = 10 then 10 else k + 1, fun j => if j = 1 then s else H (j - 1), rfl, rfl, rfl, by omega, by split <;> omega, ?_⟩
    intro j hj1 hj2
    by_cases gj : j = 1
    · subst gj
      have en : ((n + 1) % 10 + 10 - 1) % 10 = n := by omega
      show zWF (if 1 = 1 then s else H (1 - 1)) ∧ zM (fun i => before' (((if k = 10 then 10 else k + 1) - 1) * 2780 + i)) (if 1 = 1 then s else H (1 - 1)) ∧ _
      rw [if_pos rfl, en, zup_at, zup_at, zup_at, zup_at, zup_at, zup_at, zup_at, zup_at, zup_at, zup_at]
      refine ⟨hWF, ?_, hS'⟩
      intro i hi
      have : (if k = 10 then 10 else k + 1) - 1 = if k = 10 then 9 else k := by split <;> omega
      show before' (((if k = 10 then 10 else k + 1) - 1) * 2780 + i) = _ ∧ _
      rw [this, b1 i hi]
      exact hM i hi
    · have hjk : j - 1 ≤ k := by
        split at hj2 <;> omega
      obtain ⟨q1, q2, q3⟩ := hh (j - 1) (by omega) hjk
      have hj10 : j ≤ 10 := by split at hj2 <;> omega
      have en : ((n + 1) % 10 + 10 - j) % 10 = (n + 10 - (j - 1)) % 10 := by omega
      have ne : (n + 10 - (j - 1)) % 10 ≠ n := by omega
      show zWF (if j = 1 then s else H (j - 1)) ∧ zM (fun i => before' (((if k = 10 then 10 else k + 1) - j) * 2780 + i)) (if j = 1 then s else H (j - 1)) ∧ _
      rw [if_neg gj, en, zup_ne _ _ ne, zup_ne _ _ ne, zup_ne _ _ ne, zup_ne _ _ ne, zup_ne _ _ ne, zup_ne _ _ ne, zup_ne _ _ ne, zup_ne _ _ ne, zup_ne _ _ ne, zup_ne _ _ ne]
      refine ⟨q1, ?_, by show zSR _ _ _ _ _ _ _ _ _ _ (if j = 1 then s else H (j - 1)); rw [if_neg gj]; exact q3⟩
      intro i hi
      have h1 : (if k = 10 then 10 else k + 1) - j < if k = 10 then 9 else k := by
        split at hj2 <;> split <;> omega
      have h2 : (if k = 10 then (if k = 10 then 10 else k + 1) - j + 1 else (if k = 10 then 10 else k + 1) - j) = k - (j - 1) := by
        split at hj2
        · rename_i g; rw [if_pos g, if_pos g]; omega
        · rename_i g; rw [if_neg g, if_neg g]; omega
      show before' (((if k = 10 then 10 else k + 1) - j) * 2780 + i) = _ ∧ _
      rw [b2 _ i hi h1, h2]
      exact q2 i hi
theorem zBack (K : Nat) (hK : 100 < K) {pw : Nat → Nat → Int32} {pf : Nat → Nat → Int64} {po ph : Nat → Nat → Int32} {pqc : Nat → Nat → Nat → Int32} {pqs : Nat → Nat → Int32} {pbc : Nat → Nat → Nat → Int32} {pbs : Nat → Nat → Int32} {pt pr : Nat → Int32} {nx kp : Int32} {before : Nat → Int32} {ch : Int32} (hH : zHist pw pf po ph pqc pqs pbc pbs pt pr nx kp before ch) (hne : ¬ ch = 0)
    (wd : Nat → Int32) (fa : Nat → Int64) (od hd : Nat → Int32) (qc : Nat → Nat → Int32) (qs : Nat → Int32) (bc : Nat → Nat → Int32) (bs : Nat → Int32) (tt rt : Int32) (now : Nat → Int32) :
    ∃ nx' kp' wd' fa' od' hd' qc' qs' bc' bs' tt' rt' s, fX5_bringBack K pw pf po ph pqc pqs pbc pbs pt pr nx kp wd fa od hd qc qs bc bs tt rt = some (nx', kp', wd', fa', od', hd', qc', qs', bc', bs', tt', rt') ∧ kp' = ch - 1 ∧ zWF s ∧ zSR wd' fa' od' hd' qc' qs' bc' bs' tt' rt' s ∧ zHist pw pf po ph pqc pqs pbc pbs pt pr nx' kp' before (ch - 1) ∧
      zcp ((ch - (1 : Int32)) * (2780 : Int32)) (0 : Int32) (2780 : Int32) 27800 2780 = true ∧ zM (va_cpy before now ((ch - (1 : Int32)) * (2780 : Int32)).toNatClampNeg (0 : Int32).toNatClampNeg (2780 : Int32).toNatClampNeg) s := by
  obtain ⟨n, k, H, rfl, rfl, rfl, hn, hk, hh⟩ := hH
  have hk1 : 1 ≤ k := by
    rcases Nat.eq_zero_or_pos k with g | g
    · exact absurd (by rw [g]; rfl) hne
    · exact g
  have e1 : (1 : Int32) = nI 1 := rfl
  obtain ⟨q1, q2, q3⟩ := hh 1 (by omega) hk1
  have ep : (n + 10 - 1) % 10 = (n + 9) % 10 := by omega
  rw [ep] at q3
  have hm : (n + 9) % 10 < 10 := Nat.mod_lt _ (by decide)
  obtain ⟨wd', fa', od', hd', qc', qs', bc', bs', ec, p1, p2, p3, p4, p5, p6⟩ := zX9_copyFrom K hK (pw ((n + 9) % 10)) (pf ((n + 9) % 10)) (po ((n + 9) % 10)) (ph ((n + 9) % 10)) (pqc ((n + 9) % 10)) (pqs ((n + 9) % 10)) (pbc ((n + 9) % 10)) (pbs ((n + 9) % 10)) (pt ((n + 9) % 10)) (pr ((n + 9) % 10)) wd fa od hd qc qs bc bs tt rt
  have z1 : ∀ e : Fin 10, zcp (nI e.val * (2780 : Int32)) (0 : Int32) (2780 : Int32) 27800 2780 = true := by decide
  have c1 : ∀ e : Fin 10, (nI e.val * (2780 : Int32)).toNatClampNeg = e.val * 2780 := by decide
  have ek : nI k - (1 : Int32) = nI (k - 1) := by rw [e1, zi_sub hk1]
  refine ⟨nI ((n + 9) % 10), nI (k - 1), wd', fa', od', hd', qc', qs', bc', bs', pt ((n + 9) % 10), pr ((n + 9) % 10), H 1, ?_, ek.symm, q1, zSR_copy q1 q3 p1 p2 p3 p4 p5 p6, ?_, ?_, ?_⟩
  · have f19 : fX5_bringBack_19 K pw pf po ph pqc pqs pbc pbs pt pr (nI ((n + 9) % 10)) (nI n) (nI k) wd fa od hd qc qs bc bs tt rt = some (nI ((n + 9) % 10), nI (k - 1), wd', fa', od', hd', qc', qs', bc', bs', pt ((n + 9) % 10), pr ((n + 9) % 10)) := by
      unfold fX5_bringBack_19
      rw [zX5_slotAt hm, Option.bind_some, if_pos hm, ec, Option.bind_some]
      unfold fX5_bringBack_40
      rw [ek]
    unfold fX5_bringBack
    by_cases g : n = 0
    · subst g
      rw [if_neg (show ¬ (0 : Int32) < nI 0 by decide)]
      exact f19
    · rw [if_pos (show (0 : Int32) < nI n by rw [show (0 : Int32) = nI 0 from rfl, zi_lt (by omega) (by omega)]; omega), show nI n - (1 : Int32) = nI ((n + 9) % 10) by rw [e1, zi_sub (by omega), show (n + 9) % 10 = n - 1 by omega]]
      exact f19
  · refine ⟨(n + 9) % 10, k - 1, fun j => H (j + 1), rfl, rfl, ek, hm, by omega, ?_⟩
    intro j hj1 hj2
    obtain ⟨r1, r2, r3⟩ := hh (j + 1) (by omega) (by omega)
    have en : ((n + 9) % 10 + 10 - j) % 10 = (n + 10 - (j + 1)) % 10 := by omega
    rw [en, show k - 1 - j = k - (j + 1) by omega]
    exact ⟨r1, r2, r3⟩
  · rw [ek]; exact z1 ⟨k - 1, by omega⟩
  · rw [ek, c1 ⟨k - 1, by omega⟩]
    intro i hi
    show va_cpy before now ((k - 1) * 2780) 0 2780 i = _ ∧ _
    rw [pk_cpy_in (by omega) (by omega), Nat.sub_zero]
    exact q2 i hi
