/-! the state of the class beside the reference's -/
def zSR (wd : Nat → Int32) (fa : Nat → Int64) (od hd : Nat → Int32) (qc : Nat → Nat → Int32) (qs : Nat → Int32) (bc : Nat → Nat → Int32) (bs : Nat → Int32) (tt rt : Int32) (s : Nat → Nat) : Prop :=
  tt = nI (s 0) ∧ (∀ t, t < s 0 → wd t = nI (s (1 + t))) ∧ zeqR (zw fa) (zfacts s) ∧ (∀ q, q < 4 → od q = nI (zqo s q)) ∧ (∀ q, q < 4 → qs q = nI (zqn s q) ∧ zL (qc q) (zqn s q) (zqa s q) (fun _ => false)) ∧ zRc hd bc bs rt s
/-- what is told is as it may be -/
def zWF (s : Nat → Nat) : Prop :=
  s 0 ≤ 5 ∧ (∀ t, t < s 0 → 1 ≤ s (1 + t) ∧ s (1 + t) ≤ 3) ∧ zf1 s ∧ (∀ t k, t < 5 → k < 512 → zfacts s t k = true → t < s 0 ∧ zin (s (1 + t)) k) ∧ (∀ t, t < 5 → zcnt (zfacts s t) 512 ≤ 60) ∧
  (∀ q, q < 4 → zQ s q ∧ zOr (zqo s q) ∧ ∀ i, i < zqn s q → (zqa s q i).1 < s 0) ∧ zRul s ∧ (∀ r, r < zrn s → (zrh s r).1 < s 0 ∧ ∀ i, i < zbn s r → (zba s r i).1 < s 0) ∧ ∃ S, zStb (zE s) S
theorem zWF_Rz {s : Nat → Nat} (h : zWF s) : zRz (zfacts s) s := fun t ht k hk g => (h.2.2.2.1 t k ht hk g).2
theorem zWF_M {s : Nat → Nat} (h : zWF s) : ∃ M, zLst (zE s) M ∧ ∀ t, t < 5 → M t ≤ 4 := by
  obtain ⟨S, hS⟩ := h.2.2.2.2.2.2.2.2
  obtain ⟨M, hM⟩ := zLst_ex (zE_ok h.2.2.2.2.2.2.1) hS
  exact ⟨M, hM, fun t ht => zLst_4 (zE_ok h.2.2.2.2.2.2.1) hM ht⟩
theorem zL_copy {c d : Nat → Int32} {n : Nat} {A : Nat → zA} {N : Nat → Bool} (h : zL c n A N) (e : ∀ j, j < 5 → d j = c j) : zL d n A N := by
  have hn := h.1
  exact ⟨h.1, fun i hi => ⟨(h.2 i hi).1, by rw [e i (by omega)]; exact (h.2 i hi).2⟩⟩
theorem zX2_copyAny (K : Nat) (hK : 5 < K) (c : Nat → Int32) (n : Int32) (c' : Nat → Int32) (n' : Int32) : ∃ d, fX2_copyFrom K c n c' n' = some (d, n) ∧ ∀ j, j < 5 → d j = c j := by
  obtain ⟨d, e, h⟩ := zX6_copyFrom K 5 (by omega) hK c c'
  refine ⟨d, ?_, h⟩
  unfold fX2_copyFrom
  rw [e]; rfl
theorem zSR_copy {wd : Nat → Int32} {fa : Nat → Int64} {od hd : Nat → Int32} {qc : Nat → Nat → Int32} {qs : Nat → Int32} {bc : Nat → Nat → Int32} {bs : Nat → Int32} {tt rt : Int32} {s : Nat → Nat} (hWF : zWF s) (h : zSR wd fa od hd qc qs bc bs tt rt s)
    {wd' : Nat → Int32} {fa' : Nat → Int64} {od' hd' : Nat → Int32} {qc' : Nat → Nat → Int32} {qs' : Nat → Int32} {bc' : Nat → Nat → Int32} {bs' : Nat → Int32}
    (h1 : ∀ j, j < 5 → wd' j = wd j) (h2 : ∀ j, j < 40 → fa' j = fa j) (h3 : ∀ j, j < 4 → od' j = od j) (h4 : ∀ j, j < 5 → hd' j = hd j) (h5 : ∀ q, q < 4 → qs' q = qs q ∧ ∀ j, j < 5 → qc' q j = qc q j) (h6 : ∀ r, r < 5 → bs' r = bs r ∧ ∀ j, j < 5 → bc' r j = bc r j) : zSR wd' fa' od' hd' qc' qs' bc' bs' tt rt s := by
  obtain ⟨a1, a2, a3, a4, a5, a6⟩ := h
  have h05 := hWF.1
  have hrn := hWF.2.2.2.2.2.2.1.1
  refine ⟨a1, fun t ht => ?_, fun t k ht hk => ?_, fun q hq => ?_, fun q hq => ?_, a6.1, fun r hr => ?_⟩
  · rw [h1 t (by omega)]; exact a2 t ht
  · rw [← a3 t k ht hk]
    unfold zw
    rw [h2 _ (by omega)]
  · rw [h3 q hq]; exact a4 q hq
  · obtain ⟨e1, e2⟩ := h5 q hq
    exact ⟨by rw [e1]; exact (a5 q hq).1, zL_copy (a5 q hq).2 e2⟩
  · obtain ⟨e1, e2⟩ := h6 r (by omega)
    obtain ⟨b1, b2, b3⟩ := a6.2 r hr
    exact ⟨by rw [h4 r (by omega)]; exact b1, by rw [e1]; exact b2, zL_copy b3 e2⟩
theorem zX9_copyFrom (K : Nat) (hK : 100 < K) (wd : Nat → Int32) (fa : Nat → Int64) (od hd : Nat → Int32) (qc : Nat → Nat → Int32) (qs : Nat → Int32) (bc : Nat → Nat → Int32) (bs : Nat → Int32) (tt rt : Int32)
    (wd0 : Nat → Int32) (fa0 : Nat → Int64) (od0 hd0 : Nat → Int32) (qc0 : Nat → Nat → Int32) (qs0 : Nat → Int32) (bc0 : Nat → Nat → Int32) (bs0 : Nat → Int32) (tt0 rt0 : Int32) :
    ∃ wd' fa' od' hd' qc' qs' bc' bs', fX9_copyFrom K wd fa od hd qc qs bc bs tt rt wd0 fa0 od0 hd0 qc0 qs0 bc0 bs0 tt0 rt0 = some (wd', fa', od', hd', qc', qs', bc', bs', tt, rt) ∧
      (∀ j, j < 5 → wd' j = wd j) ∧ (∀ j, j < 40 → fa' j = fa j) ∧ (∀ j, j < 4 → od' j = od j) ∧ (∀ j, j < 5 → hd' j = hd j) ∧ (∀ q, q < 4 → qs' q = qs q ∧ ∀ j, j < 5 → qc' q j = qc q j) ∧ ∀ r, r < 5 → bs' r = bs r ∧ ∀ j, j < 5 → bc' r j = bc r j := by
  obtain ⟨wd', e1, p1⟩ := zX6_copyFrom K 5 (by omega) (by omega) wd wd0
  obtain ⟨fa', e2, p2⟩ := zX7_copyFrom K (by omega) fa fa0
  obtain ⟨od', e3, p3⟩ := zX6_copyFrom K 4 (by omega) (by omega) od od0
  obtain ⟨hd', e4, p4⟩ := zX6_copyFrom K 5 (by omega) (by omega) hd hd0
  have body : ∀ (qc' : Nat → Nat → Int32) (qs' : Nat → Int32), ∃ bc' bs', fX9_copyFrom_72 K wd fa od hd qc qs bc bs tt rt K (nI 0) wd' fa' od' hd' qc' qs' bc0 bs0 tt0 rt0 = some (wd', fa', od', hd', qc', qs', bc', bs', tt, rt) ∧ ∀ r, r < 5 → bs' r = bs r ∧ ∀ j, j < 5 → bc' r j = bc r j := by
    intro qc' qs'
    obtain ⟨x, ⟨bc', bs', hx, hp⟩, e⟩ := z_for (F := fun k r (z : (Nat → Nat → Int32) × (Nat → Int32)) => fX9_copyFrom_72 K wd fa od hd qc qs bc bs tt rt k (nI r) wd' fa' od' hd' qc' qs' z.1 z.2 tt0 rt0) (n := 5) (inv := fun r z => ∀ u, u < r → z.2 u = bs u ∧ ∀ j, j < 5 → z.1 u j = bc u j)
      (post := fun x => ∃ bc' bs', x = (wd', fa', od', hd', qc', qs', bc', bs', tt, rt) ∧ ∀ r, r < 5 → bs' r = bs r ∧ ∀ j, j < 5 → bc' r j = bc r j)
      (by
        intro k r z hr hz
        left
        obtain ⟨d, ed, hd2⟩ := zX2_copyAny K (by omega) (bc r) (bs r) (z.1 r) (z.2 r)
        refine ⟨(zup z.1 r d, zup z.2 r (bs r)), ?_, ?_⟩
        · intro u hu
          show zup z.2 r (bs r) u = _ ∧ ∀ j, j < 5 → zup z.1 r d u j = _
          by_cases g : u = r
          · subst g
            rw [show zup z.2 u (bs u) u = bs u from if_pos rfl, show zup z.1 u d u = d from if_pos rfl]
            exact ⟨rfl, hd2⟩
          · rw [show zup z.2 r (bs r) u = z.2 u from if_neg g, show zup z.1 r d u = z.1 u from if_neg g]
            exact hz u (by omega)
        · show fX9_copyFrom_72 K wd fa od hd qc qs bc bs tt rt (k + 1) (nI r) wd' fa' od' hd' qc' qs' z.1 z.2 tt0 rt0 = _
          rw [fX9_copyFrom_72, if_neg (by rw [show (5 : Int32) = nI 5 from rfl, zi_le (by omega) (by omega)]; omega), zX9_body hr, Option.bind_some, Option.bind_some, if_pos rfl, if_pos hr, ed, Option.bind_some, ← nI_succ])
      (by
        intro k z hz
        refine ⟨_, ⟨z.1, z.2, rfl, hz⟩, ?_⟩
        show fX9_copyFrom_72 K wd fa od hd qc qs bc bs tt rt (k + 1) (nI 5) wd' fa' od' hd' qc' qs' z.1 z.2 tt0 rt0 = _
        rw [fX9_copyFrom_72, if_pos (show (5 : Int32) ≤ nI 5 by decide)])
      5 K 0 (bc0, bs0) (by omega) (fun u hu => by omega) (by omega)
    rw [hx] at e
    exact ⟨bc', bs', e, hp⟩
  obtain ⟨⟨qc', qs'⟩, hq, e⟩ := z_forD (F := fun k q (z : (Nat → Nat → Int32) × (Nat → Int32)) => fX9_copyFrom_46 K wd fa od hd qc qs bc bs tt rt k (nI q) wd' fa' od' hd' z.1 z.2 bc0 bs0 tt0 rt0) (n := 4) (inv := fun q z => ∀ u, u < q → z.2 u = qs u ∧ ∀ j, j < 5 → z.1 u j = qc u j)
    (D := fun z => fX9_copyFrom_72 K wd fa od hd qc qs bc bs tt rt K (nI 0) wd' fa' od' hd' z.1 z.2 bc0 bs0 tt0 rt0)
    (by
      intro k r z hr hz
      obtain ⟨d, ed, hd2⟩ := zX2_copyAny K (by omega) (qc r) (qs r) (z.1 r) (z.2 r)
      refine ⟨(zup z.1 r d, zup z.2 r (qs r)), ?_, ?_⟩
      · intro u hu
        show zup z.2 r (qs r) u = _ ∧ ∀ j, j < 5 → zup z.1 r d u j = _
        by_cases g : u = r
        · subst g
          rw [show zup z.2 u (qs u) u = qs u from if_pos rfl, show zup z.1 u d u = d from if_pos rfl]
          exact ⟨rfl, hd2⟩
        · rw [show zup z.2 r (qs r) u = z.2 u from if_neg g, show zup z.1 r d u = z.1 u from if_neg g]
          exact hz u (by omega)
      · show fX9_copyFrom_46 K wd fa od hd qc qs bc bs tt rt (k + 1) (nI r) wd' fa' od' hd' z.1 z.2 bc0 bs0 tt0 rt0 = _
        rw [fX9_copyFrom_46, if_neg (by rw [show (4 : Int32) = nI 4 from rfl, zi_le (by omega) (by omega)]; omega), zX9_query hr, Option.bind_some, Option.bind_some, if_pos rfl, if_pos hr, ed, Option.bind_some, ← nI_succ])
    (by
      intro k z _
      show fX9_copyFrom_46 K wd fa od hd qc qs bc bs tt rt (k + 1) (nI 4) wd' fa' od' hd' z.1 z.2 bc0 bs0 tt0 rt0 = _
      rw [fX9_copyFrom_46, if_pos (show (4 : Int32) ≤ nI 4 by decide)]; rfl)
    4 K 0 (qc0, qs0) (by omega) (fun u hu => by omega) (by omega)
  obtain ⟨bc', bs', eb, hb⟩ := body qc' qs'
  refine ⟨wd', fa', od', hd', qc', qs', bc', bs', ?_, p1, p2, p3, p4, hq, hb⟩
  unfold fX9_copyFrom
  rw [e1, Option.bind_some, e2, Option.bind_some, e3, Option.bind_some, e4, Option.bind_some]
  have e' : fX9_copyFrom_46 K wd fa od hd qc qs bc bs tt rt K 0 wd' fa' od' hd' qc0 qs0 bc0 bs0 tt0 rt0 = fX9_copyFrom_72 K wd fa od hd qc qs bc bs tt rt K (nI 0) wd' fa' od' hd' qc' qs' bc0 bs0 tt0 rt0 := e
  rw [e', eb]
