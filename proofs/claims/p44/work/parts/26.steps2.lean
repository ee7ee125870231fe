def zcut (d : Nat → Nat) : Nat → Nat := fun v => if v < 4 then d v else 0
/-- what lies ahead of depth j is as it was -/
def zF (S T : zSt) (j : Nat) : Prop := ∀ i, i < j → T.1 i = S.1 i ∧ T.2.1 i = S.2.1 i ∧ T.2.2.1 i = S.2.2.1 i ∧ T.2.2.2.1 i = S.2.2.2.1 i
theorem zF_trans {S T U : zSt} {j : Nat} (h1 : zF S T j) (h2 : zF T U j) : zF S U j := fun i hi => ⟨(h2 i hi).1.trans (h1 i hi).1, (h2 i hi).2.1.trans (h1 i hi).2.1, (h2 i hi).2.2.1.trans (h1 i hi).2.2.1, (h2 i hi).2.2.2.trans (h1 i hi).2.2.2⟩
theorem zF_less {S T : zSt} {j k : Nat} (h : zF S T k) (hj : j ≤ k) : zF S T j := fun i hi => h i (by omega)
theorem zcut_dg {n : Nat} {pl : Nat → Nat} {S : zSt} {j : Nat} {d : Nat → Nat} {key x like t : Nat} (hD : zD n pl S j d key x like t) : zdg (zcut d) ∧ d (pl j) = 0 ∨ ¬ pl j < 4 := by
  obtain ⟨h1, h2, h3, h4, h5, h6, d', h7, h8, h9⟩ := hD
  by_cases hp : pl j < 4
  · left
    refine ⟨?_, ?_⟩
    · intro v hv
      unfold zcut
      rw [if_pos hv, ← h9 v hv]
      split
      · exact Or.inl rfl
      · exact h7 v hv
    · have := h9 _ hp; rw [if_pos rfl] at this; exact this.symm
  · exact Or.inr hp
theorem zstep_end (K : Nat) (hK : 8 < K) {cells : Nat → Int32} {n : Nat} {A : Nat → zA} {N : Nat → Bool} {seq ask : Nat → Int32} {pl : Nat → Nat} {c : Nat} (hC : zC cells n A N seq ask pl c) (w : Nat → Int64) {S : zSt} {j : Nat} {d : Nat → Nat} {key x like t : Nat} (hj : j < c) (hD : zD n pl S j d key x like t) (hx : x ≤ 8) (hl : like < 1000)
    (hr : zT (zw w) A d (pl j) (znx (fun i => zaH (A i) (pl j)) n n t) x = 8) :
    zstep K cells (nI n) seq ask (nI c) w S = some (false, S.1, S.2.1, S.2.2.1, S.2.2.2.1, nI j - 1, S.2.2.2.2.2.1 + 1, nI (zch (zcut d)), S.2.2.2.2.2.2.2) := by
  unfold zstep
  rw [zX8_ask K hK hC w hj hD hx hl, hr, Option.bind_some, zres_8, if_pos rfl, hD.1]
  rw [if_neg (by decide), if_neg (by decide), if_neg (by decide)]
  rfl
theorem zstep_on (K : Nat) (hK : 8 < K) {cells : Nat → Int32} {n : Nat} {A : Nat → zA} {N : Nat → Bool} {seq ask : Nat → Int32} {pl : Nat → Nat} {c : Nat} (hC : zC cells n A N seq ask pl c) (w : Nat → Int64) {S : zSt} {j : Nat} {d : Nat → Nat} {key x like t : Nat} (hj : j < c) (hD : zD n pl S j d key x like t) (hx : x ≤ 8) (hl : like < 1000)
    (hr : zT (zw w) A d (pl j) (znx (fun i => zaH (A i) (pl j)) n n t) x < 8) (ha : (if x < zT (zw w) A d (pl j) (znx (fun i => zaH (A i) (pl j)) n n t) x then 1 else like + 1) < zcnt (fun i => zaH (A i) (pl j)) n) :
    ∃ T, zstep K cells (nI n) seq ask (nI c) w S = some (false, T) ∧ zD n pl T j d key (zT (zw w) A d (pl j) (znx (fun i => zaH (A i) (pl j)) n n t) x) (if x < zT (zw w) A d (pl j) (znx (fun i => zaH (A i) (pl j)) n n t) x then 1 else like + 1) (znx (fun i => zaH (A i) (pl j)) n n t) ∧ zF S T j ∧ T.2.2.2.2.2.1 = S.2.2.2.2.2.1 + 1 := by
  have hask := zX8_ask K hK hC w hj hD hx hl
  obtain ⟨hL, hc4, hseq, hdist⟩ := hC
  obtain ⟨e1, e2, e3, i0, hi0, hp0⟩ := hseq j hj
  have hn := hL.1
  have hz := (zcut_dg hD).resolve_right (fun q => q e2)
  have h5 := hD.2.2.2.2.1
  have hu := znx_le (fun i => zaH (A i) (pl j)) n n t h5
  have hcn := zcnt_le (fun i => zaH (A i) (pl j)) n
  generalize znx (fun i => zaH (A i) (pl j)) n n t = u at *
  generalize zT (zw w) A d (pl j) u x = r at *
  generalize hlk : (if x < r then 1 else like + 1) = lk at *
  rw [if_pos hr, if_pos hr, if_pos hr] at hask
  refine ⟨(upd S.1 j (nI r), upd S.2.1 j (nI lk), upd S.2.2.1 j (nI u), S.2.2.2.1, nI j, S.2.2.2.2.2.1 + 1, nI (zch (zcut d)), S.2.2.2.2.2.2.2), ?_, ?_, ?_, rfl⟩
  · unfold zstep
    rw [hask, Option.bind_some, zres_i hr, if_neg (zi_m1 (by omega)), hD.1]
    dsimp only
    rw [zX6_at _ (show j < 4 by omega) (by omega), Option.bind_some, zX6_at ask (show j < 4 by omega) (by omega), Option.bind_some, e3, zu_same, if_pos (by rw [zi_lt (by omega) (by omega)]; exact ha)]
    rfl
  · refine ⟨rfl, zu_same _ _ _, zu_same _ _ _, Or.inl (zu_same _ _ _), hu, hD.2.2.2.2.2.1, zcut d, hz.1, rfl, ?_⟩
    intro v hv
    unfold zcut
    rw [if_pos hv]
    split
    · rename_i q; rw [q]; exact hz.2.symm
    · rfl
  · intro i hi
    exact ⟨zu_ne _ _ (by omega), zu_ne _ _ (by omega), zu_ne _ _ (by omega), rfl⟩
theorem zX8_choose {cells : Nat → Int32} {n : Nat} {A : Nat → zA} {N : Nat → Bool} {seq ask : Nat → Int32} {pl : Nat → Nat} {c : Nat} (hC : zC cells n A N seq ask pl c) {j : Nat} (hj : j < c) {r key : Nat} (hr : r < 8) {re te ke : Nat → Int32} (hke : ke j = nI key) {d : Nat → Nat} (hd : zdg d) (ky : Int32) :
    fX8_choose seq ke (nI j) (nI r) re te (nI (zch d)) ky = some (upd re j (nI (r + 1)), upd te j (nI 0), nI (zch (zup d (pl j) (8 + r))), nI (8 * key + r)) := by
  obtain ⟨hL, hc4, hseq, hdist⟩ := hC
  obtain ⟨e1, e2, e3, i0, hi0, hp0⟩ := hseq j hj
  unfold fX8_choose
  rw [zX6_at seq (show j < 4 by omega) (by omega), Option.bind_some, e1, zX1_withValue (zdg_lt hd) e2 hr, Option.bind_some, zX6_at ke (show j < 4 by omega) (by omega), Option.bind_some, zX6_put _ re (show j < 4 by omega) (by omega), Option.bind_some, zX6_put _ te (show j < 4 by omega) (by omega), Option.bind_some, hke]
  have e : (nI key <<< ((3 : Int32) &&& 31)) ||| nI r = nI (8 * key + r) := by
    simp (disch := omega) only [zi_lit, zi_and, zi_shlP, zi_or, Nat.reduceAnd]
    rw [zn_or8 _ _ hr]
  rw [e, show (1 : Int32) = nI 1 from rfl, zi_add]; rfl
theorem zstep_ch (K : Nat) (hK : 8 < K) {cells : Nat → Int32} {n : Nat} {A : Nat → zA} {N : Nat → Bool} {seq ask : Nat → Int32} {pl : Nat → Nat} {c : Nat} (hC : zC cells n A N seq ask pl c) (w : Nat → Int64) {S : zSt} {j : Nat} {d : Nat → Nat} {key x like t : Nat} (hj : j < c) (hD : zD n pl S j d key x like t) (hx : x ≤ 8) (hl : like < 1000) (hd0 : ∀ i, j ≤ i → i < c → d (pl i) = 0)
    (hr : zT (zw w) A d (pl j) (znx (fun i => zaH (A i) (pl j)) n n t) x < 8) (ha : ¬ (if x < zT (zw w) A d (pl j) (znx (fun i => zaH (A i) (pl j)) n n t) x then 1 else like + 1) < zcnt (fun i => zaH (A i) (pl j)) n) :
    ∃ b T, zstep K cells (nI n) seq ask (nI c) w S = some (b, T) ∧ zF S T j ∧ T.2.2.2.2.2.1 = S.2.2.2.2.2.1 + 1 ∧ T.1 j = nI (zT (zw w) A d (pl j) (znx (fun i => zaH (A i) (pl j)) n n t) x + 1) ∧ T.2.1 j = nI 0 ∧ T.2.2.1 j = nI (znx (fun i => zaH (A i) (pl j)) n n t) ∧ T.2.2.2.1 j = nI key ∧
      T.2.2.2.2.2.2.1 = nI (zch (zup (zcut d) (pl j) (8 + zT (zw w) A d (pl j) (znx (fun i => zaH (A i) (pl j)) n n t) x))) ∧ zdg (zup (zcut d) (pl j) (8 + zT (zw w) A d (pl j) (znx (fun i => zaH (A i) (pl j)) n n t) x)) ∧
      ((j + 1 < c ∧ b = false ∧ zD n pl T (j + 1) (zup d (pl j) (8 + zT (zw w) A d (pl j) (znx (fun i => zaH (A i) (pl j)) n n t) x)) (8 * key + zT (zw w) A d (pl j) (znx (fun i => zaH (A i) (pl j)) n n t) x) 0 0 (n - 1)) ∨
       (¬ j + 1 < c ∧ b = true ∧ T.2.2.2.2.1 = nI j ∧ T.2.2.2.2.2.2.2 = nI (8 * key + zT (zw w) A d (pl j) (znx (fun i => zaH (A i) (pl j)) n n t) x))) := by
  have hask := zX8_ask K hK hC w hj hD hx hl
  have hC' := hC
  obtain ⟨hL, hc4, hseq, hdist⟩ := hC
  obtain ⟨e1, e2, e3, i0, hi0, hp0⟩ := hseq j hj
  have hn := hL.1
  have hz := (zcut_dg hD).resolve_right (fun q => q e2)
  have h5 := hD.2.2.2.2.1
  have hu := znx_le (fun i => zaH (A i) (pl j)) n n t h5
  have hcn := zcnt_le (fun i => zaH (A i) (pl j)) n
  generalize znx (fun i => zaH (A i) (pl j)) n n t = u at *
  generalize zT (zw w) A d (pl j) u x = r at *
  generalize hlk : (if x < r then 1 else like + 1) = lk at *
  have hlk2 : lk < 2147483648 := by rw [← hlk]; split <;> omega
  rw [if_pos hr, if_pos hr, if_pos hr] at hask
  have hch := zX8_choose hC' hj hr (re := upd S.1 j (nI r)) (te := upd S.2.1 j (nI lk)) (ke := S.2.2.2.1) hD.2.2.2.2.2.1 hz.1 S.2.2.2.2.2.2.2
  have hdg2 : zdg (zup (zcut d) (pl j) (8 + r)) := by
    intro v hv; rw [zq_at]; split
    · right; omega
    · exact hz.1 v hv
  have hstep : zstep K cells (nI n) seq ask (nI c) w S = if nI j + 1 < nI c then (fX8_beginVariable (nI (8 * key + r)) (upd (upd S.1 j (nI r)) j (nI (r + 1))) (upd (upd S.2.1 j (nI lk)) j (nI 0)) (upd S.2.2.1 j (nI u)) S.2.2.2.1 (nI j)).bind fun q85 => some (false, q85.1, q85.2.1, q85.2.2.1, q85.2.2.2.1, q85.2.2.2.2, S.2.2.2.2.2.1 + 1, nI (zch (zup (zcut d) (pl j) (8 + r))), nI (8 * key + r)) else some (true, upd (upd S.1 j (nI r)) j (nI (r + 1)), upd (upd S.2.1 j (nI lk)) j (nI 0), upd S.2.2.1 j (nI u), S.2.2.2.1, nI j, S.2.2.2.2.2.1 + 1, nI (zch (zup (zcut d) (pl j) (8 + r))), nI (8 * key + r)) := by
    unfold zstep
    rw [hask, Option.bind_some, zres_i hr, if_neg (zi_m1 (by omega)), hD.1]
    dsimp only
    rw [zX6_at _ (show j < 4 by omega) (by omega), Option.bind_some, zX6_at ask (show j < 4 by omega) (by omega), Option.bind_some, e3, zu_same, if_neg (by rw [zi_lt hlk2 (by omega)]; exact ha)]
    have e9 : (fun v => if v < 4 then d v else 0) = zcut d := rfl
    rw [e9, hch, Option.bind_some]
  have hF : ∀ (a : Nat → Int32) (v1 v2 : Int32) i, i < j → upd (upd a j v1) j v2 i = a i := by
    intro a v1 v2 i hi; rw [zu_ne _ _ (by omega), zu_ne _ _ (by omega)]
  by_cases hb : j + 1 < c
  · have hcond : nI j + 1 < nI c := by rw [show (1 : Int32) = nI 1 from rfl, zi_add, zi_lt (by omega) (by omega)]; exact hb
    rw [if_pos hcond] at hstep
    have hbeg : fX8_beginVariable (nI (8 * key + r)) (upd (upd S.1 j (nI r)) j (nI (r + 1))) (upd (upd S.2.1 j (nI lk)) j (nI 0)) (upd S.2.2.1 j (nI u)) S.2.2.2.1 (nI j) = some (upd (upd (upd S.1 j (nI r)) j (nI (r + 1))) (j + 1) (nI 0), upd (upd (upd S.2.1 j (nI lk)) j (nI 0)) (j + 1) (nI 0), upd (upd S.2.2.1 j (nI u)) (j + 1) (-1), upd S.2.2.2.1 (j + 1) (nI (8 * key + r)), nI (j + 1)) := by
      unfold fX8_beginVariable
      have e1' : nI j + (1 : Int32) = nI (j + 1) := by rw [show (1 : Int32) = nI 1 from rfl, zi_add]
      rw [e1', zX6_put _ _ (show j + 1 < 4 by omega) (by omega), Option.bind_some, zX6_put _ _ (show j + 1 < 4 by omega) (by omega), Option.bind_some, zX6_put _ _ (show j + 1 < 4 by omega) (by omega), Option.bind_some, zX6_put _ _ (show j + 1 < 4 by omega) (by omega), Option.bind_some]
      rfl
    rw [hbeg, Option.bind_some] at hstep
    refine ⟨_, _, hstep, ?_, rfl, ?_, ?_, ?_, ?_, rfl, hdg2, Or.inl ⟨hb, rfl, ?_⟩⟩
    · intro i hi
      refine ⟨?_, ?_, ?_, ?_⟩
      · show upd _ (j + 1) _ i = _; rw [zu_ne _ _ (by omega), hF _ _ _ i hi]
      · show upd _ (j + 1) _ i = _; rw [zu_ne _ _ (by omega), hF _ _ _ i hi]
      · show upd _ (j + 1) _ i = _; rw [zu_ne _ _ (by omega), zu_ne _ _ (by omega)]
      · show upd _ (j + 1) _ i = _; rw [zu_ne _ _ (by omega)]
    · show upd _ (j + 1) _ j = _; rw [zu_ne _ _ (by omega), zu_same]
    · show upd _ (j + 1) _ j = _; rw [zu_ne _ _ (by omega), zu_same]
    · show upd _ (j + 1) _ j = _; rw [zu_ne _ _ (by omega), zu_same]
    · show upd _ (j + 1) _ j = _; rw [zu_ne _ _ (by omega)]; exact hD.2.2.2.2.2.1
    · refine ⟨rfl, zu_same _ _ _, zu_same _ _ _, Or.inr ⟨zu_same _ _ _, rfl⟩, by omega, zu_same _ _ _, zup (zcut d) (pl j) (8 + r), hdg2, rfl, ?_⟩
      intro v hv
      have hne : pl (j + 1) ≠ pl j := fun q => hdist j (j + 1) (by omega) hb q.symm
      rw [zq_at, zq_at]
      have ec : zcut d v = d v := if_pos hv
      rw [ec]
      by_cases q : v = pl j
      · rw [if_pos q, if_neg (by rw [q]; exact hne.symm)]
      · rw [if_neg q]
        split
        · rename_i q2; rw [q2]; exact (hd0 (j + 1) (by omega) hb).symm
        · rfl
  · have hcond : ¬ nI j + 1 < nI c := by rw [show (1 : Int32) = nI 1 from rfl, zi_add, zi_lt (by omega) (by omega)]; exact hb
    rw [if_neg hcond] at hstep
    refine ⟨_, _, hstep, ?_, rfl, zu_same _ _ _, zu_same _ _ _, zu_same _ _ _, hD.2.2.2.2.2.1, rfl, hdg2, Or.inr ⟨hb, rfl, rfl, rfl⟩⟩
    intro i hi
    exact ⟨hF _ _ _ i hi, hF _ _ _ i hi, zu_ne _ _ (by omega), rfl⟩
