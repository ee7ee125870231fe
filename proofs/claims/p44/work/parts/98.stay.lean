/-! what was found stays where a query stays -/
theorem znx_cong {p p' : Nat → Bool} {n : Nat} (h : ∀ i, i < n → p i = p' i) : ∀ k t, t < n → znx p n k t = znx p' n k t
  | 0, _, _ => rfl
  | k + 1, t, ht => by
    have h0 : (if t + 1 < n then t + 1 else 0) < n := by split <;> omega
    rw [znx, znx, h _ h0, znx_cong h k _ h0]
theorem zIn_cong {α : Type} {sub sub' : Nat → List α × Nat} (hs : sub = sub') {T T' : Nat → Nat → Nat} {nx nx' : Nat → Nat} {n all all' : Nat} (ha : all = all') (hx : ∀ t, t < n → nx t = nx' t ∧ nx t < n) (hT : ∀ u x, u < n → T u x = T' u x) : ∀ k t x like, t < n → zIn sub T nx all k t x like = zIn sub' T' nx' all' k t x like
  | 0, _, _, _, _ => rfl
  | k + 1, t, x, like, ht => by
    obtain ⟨h1, h2⟩ := hx t ht
    have h3 : nx' t < n := by rw [← h1]; exact h2
    have e := fun x like => zIn_cong hs ha hx hT k (nx' t) x like h3
    rw [zIn, zIn, h1, hT _ x h3, ← ha]
    rw [← ha] at e
    rw [e, e, hs]
theorem zS_cong {R : Nat → Nat → Bool} {A B : Nat → zA} {n : Nat} (hn : 0 < n) (h : ∀ i, i < n → A i = B i) (pl : Nat → Nat) : ∀ m j d key, zS R A n pl m j d key = zS R B n pl m j d key
  | 0, _, _, _ => rfl
  | m + 1, j, d, key => by
    rw [zS, zS]
    refine zIn_cong (n := n) ?_ ?_ ?_ ?_ 60 (n - 1) 0 0 (by omega)
    · funext r
      exact zS_cong hn h pl m (j + 1) _ _
    · exact zcnt_cong (fun i hi => by rw [h i hi])
    · intro t ht
      exact ⟨znx_cong (fun i hi => by rw [h i hi]) n t ht, znx_le _ n n t ht⟩
    · intro u x hu
      unfold zT
      rw [h u hu]
theorem zFd_cong {R : Nat → Nat → Bool} {A B : Nat → zA} {n : Nat} (h : ∀ i, i < n → A i = B i) {pl : Nat → Nat} {c : Nat} (hc : n = 0 → c = 0) {r : zR15} (hf : zFd R A n pl c r) : zFd R B n pl c r := by
  obtain ⟨h1, h2, h3, h4, h5, h6⟩ := hf
  have ea : ∀ y, zans R A n pl c y = zans R B n pl c y := by
    intro y
    unfold zans zfa
    have : zall (fun i => R (A i).1 (zaR (A i) (fun v => zext pl c 0 z0 y v % 8))) n = zall (fun i => R (B i).1 (zaR (B i) (fun v => zext pl c 0 z0 y v % 8))) n := zall_cong (fun i hi => by rw [h i hi])
    rw [this]
  refine ⟨h1, h2, h3, ?_, fun y hy => by rw [h5 y hy, ea], by rw [h6]; exact congrArg nI (zcnt_cong (fun y _ => ea y))⟩
  rw [h4]
  unfold zlp
  by_cases g : c = 0
  · rw [if_pos g, if_pos g]
  · rw [if_neg g, if_neg g, zS_cong (Nat.pos_of_ne_zero (fun e => g (hc e))) h]
theorem zFo_same {s s' : Nat → Nat} {w : Nat → Int64} {im : Int32} {r : zR15} {ff : Int32} (h : zFo s w im r ff) (ho : ∀ q, q < 4 → zOr (zqo s q)) (hq : ∀ q, q < 4 → zsmQ s s' q) : zFo s' w im r ff := by
  rcases h with h | ⟨q, h1, h2, h3, h4⟩
  · exact Or.inl h
  · obtain ⟨a1, a2, a3⟩ := hq q h1
    refine Or.inr ⟨q, h1, h2, h3, ?_⟩
    have hv : zqv s' q = zqv s q := by
      unfold zqv
      rw [a1]
      exact zLV_cong (fun i hi => ⟨a3 i hi, rfl⟩)
    have hpl : zqpl s' q = zqpl s q := by unfold zqpl; rw [hv, a2]
    have hc : zqc s' q = zqc s q := by unfold zqc; rw [hv, a2]
    rw [hpl, hc, a1]
    refine zFd_cong (fun i hi => (a3 i hi).symm) ?_ h4
    intro e
    show zpc (zqo s q) (zqv s q) 4 = 0
    have hv0 : zqv s q = 0 := by unfold zqv; rw [e]; rfl
    rw [hv0, zpc_cnt (ho q h1) (by omega)]
    decide
/-- rows, rules and queries as they were -/
theorem zIv_stay {wd : Nat → Int32} {fa : Nat → Int64} {od hd : Nat → Int32} {qc : Nat → Nat → Int32} {qs : Nat → Int32} {bc : Nat → Nat → Int32} {bs : Nat → Int32} {tt rt : Int32} {s M s' : Nat → Nat} (hW : zWF s) (hM : zLst (zE s) M) (hM4 : ∀ t, t < 5 → M t ≤ 4) {w : Nat → Int64} {g re fi : Nat → Int32} {ro im : Int32} (hg : im = 0 ∨ im = 1 ∧ zGn s M w g re fi ro) {row layer : Nat → Int32} {rounds : Int32} {value : Nat → Int32} (hrow : zMr row (zly s M 5).1) (hl : ∀ t, t < 5 → layer t = nI (M t)) (hro : rounds = nI (zly s M 5).2) (hval : ∃ val, zMv value val)
    {H : zH12} {now before : Nat → Int32} {ch : Int32} {r : zR15} {ff : Int32} (hff : zFo s w im r ff) (hW' : zWF s') (hS' : zSR wd fa od hd qc qs bc bs tt rt s') (hR : zsmR s s') (hQ : ∀ q, q < 4 → zsmQ s s' q) (hf : ∀ t k, t < 5 → k < 512 → zfacts s' t k = zfacts s t k) (hH : zHi H before ch) (hm : zM now s') :
    zIv wd fa od hd qc qs bc bs tt rt H w g re fi ro im r ff now before ch row layer rounds value := by
  have hs := hW.2.2.2.2.2.2.1
  obtain ⟨l1, l2⟩ := zR_ly hR hs (fun t k ht hk => hf t k ht hk) M 5
  refine ⟨s', M, hW', zR_Lst hR hM, hM4, hS', hH, ?_, zFo_same hff (fun q hq => (hW.2.2.2.2.2.1 q hq).2.1) hQ, hm, ?_, hl, by rw [l2]; exact hro, hval⟩
  · rcases hg with h | ⟨h1, h2⟩
    · exact Or.inl h
    · exact Or.inr ⟨h1, zR_Gn hR hs (fun t k ht hk => hf t k ht hk) h2⟩
  · intro t k ht hk
    rw [hrow t k ht hk, l1 t k ht hk]
