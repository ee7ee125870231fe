/-! one step of the search -/
/-- what is told: the least value from x on that the variable has by atom u, 8 if none -/
def zT (R : Nat → Nat → Bool) (A : Nat → zA) (d : Nat → Nat) (v u x : Nat) : Nat := zlst (zhas R (A u) d v) (8 - x) x
theorem zT_le (R : Nat → Nat → Bool) (A : Nat → zA) (d : Nat → Nat) (v u : Nat) {x : Nat} (hx : x ≤ 8) : x ≤ zT R A d v u x ∧ zT R A d v u x ≤ 8 := by
  have := zlst_le (zhas R (A u) d v) (8 - x) x
  unfold zT; omega
theorem zpin_cong {d e : Nat → Nat} {v : Nat} (h : d v = e v) (c : Nat) : zpin d v c = zpin e v c := by unfold zpin; rw [h]
theorem zhas_cong {R : Nat → Nat → Bool} {a : zA} (ha : zaOK a) {d e : Nat → Nat} (h : ∀ v, v < 4 → d v = e v) (v y : Nat) : zhas R a d v y = zhas R a e v y := by
  unfold zhas
  apply zany_cong
  intro k _
  have : zfit a d k = zfit a e k := by
    unfold zfit
    rw [zpin_cong (h _ ha.2.2.2.1), zpin_cong (h _ ha.2.2.2.2.1), zpin_cong (h _ ha.2.2.2.2.2)]
  rw [this]
theorem zT_cong {R : Nat → Nat → Bool} {A : Nat → zA} {u : Nat} (ha : zaOK (A u)) {d e : Nat → Nat} (h : ∀ v, v < 4 → d v = e v) (v x : Nat) : zT R A d v u x = zT R A e v u x := by
  unfold zT
  apply zlst_cong
  intro y _ _
  exact zhas_cong ha h v y
/-- what doesn't change while a search goes on -/
def zC (cells : Nat → Int32) (n : Nat) (A : Nat → zA) (N : Nat → Bool) (seq ask : Nat → Int32) (pl : Nat → Nat) (c : Nat) : Prop :=
  zL cells n A N ∧ c ≤ 4 ∧ (∀ j, j < c → seq j = nI (pl j) ∧ pl j < 4 ∧ ask j = nI (zcnt (fun i => zaH (A i) (pl j)) n) ∧ ∃ i, i < n ∧ zaH (A i) (pl j) = true) ∧ ∀ i j, i < j → j < c → pl i ≠ pl j
/-- the state at depth j: x is reached, like have told it, t was asked last -/
def zD (n : Nat) (pl : Nat → Nat) (S : zSt) (j : Nat) (d : Nat → Nat) (key x like t : Nat) : Prop :=
  S.2.2.2.2.1 = nI j ∧ S.1 j = nI x ∧ S.2.1 j = nI like ∧ (S.2.2.1 j = nI t ∨ (S.2.2.1 j = -1 ∧ t = n - 1)) ∧ t < n ∧ S.2.2.2.1 j = nI key ∧ ∃ d', zdg d' ∧ S.2.2.2.2.2.2.1 = nI (zch d') ∧ ∀ v, v < 4 → (if v = pl j then 0 else d' v) = d v
theorem znx_ok {p : Nat → Bool} {n : Nat} : ∀ k t, (∃ m, m < k ∧ p (if t + 1 + m < n then t + 1 + m else t + 1 + m - n) = true) → t < n → k ≤ n → p (znx p n k t) = true
  | 0, t, ⟨m, hm, _⟩, _, _ => by omega
  | k + 1, t, ⟨m, hm, hp⟩, ht, hk => by
    rw [znx]
    have e0 : (if t + 1 < n then t + 1 else 0) < n := by split <;> omega
    have e1 : m = 0 → (if t + 1 < n then t + 1 else 0) = if t + 1 + m < n then t + 1 + m else t + 1 + m - n := by intro q; subst q; rw [Nat.add_zero]; split <;> omega
    have e2 : ∀ q, m = q + 1 → (if (if t + 1 < n then t + 1 else 0) + 1 + q < n then (if t + 1 < n then t + 1 else 0) + 1 + q else (if t + 1 < n then t + 1 else 0) + 1 + q - n) = if t + 1 + m < n then t + 1 + m else t + 1 + m - n := by
      intro q hq; subst hq; split <;> split <;> split <;> omega
    generalize (if t + 1 < n then t + 1 else 0) = t' at *
    by_cases g : p t' = true
    · rw [if_pos g]; exact g
    · rw [if_neg g]
      cases m with
      | zero => rw [← e1 rfl] at hp; exact absurd hp g
      | succ m => exact znx_ok k t' ⟨m, by omega, by rw [e2 m rfl]; exact hp⟩ e0 (by omega)
theorem znx_p {p : Nat → Bool} {n t i : Nat} (hi : i < n) (hp : p i = true) (ht : t < n) : p (znx p n n t) = true := by
  apply znx_ok n t _ ht (Nat.le_refl n)
  refine ⟨if t < i then i - t - 1 else i + n - t - 1, by split <;> omega, ?_⟩
  have e : (if t + 1 + (if t < i then i - t - 1 else i + n - t - 1) < n then t + 1 + (if t < i then i - t - 1 else i + n - t - 1) else t + 1 + (if t < i then i - t - 1 else i + n - t - 1) - n) = i := by
    by_cases g : t < i
    · simp only [if_pos g]; split <;> omega
    · simp only [if_neg g]; split <;> omega
  rw [e]; exact hp
theorem zX8_ask (K : Nat) (hK : 8 < K) {cells : Nat → Int32} {n : Nat} {A : Nat → zA} {N : Nat → Bool} {seq ask : Nat → Int32} {pl : Nat → Nat} {c : Nat} (hC : zC cells n A N seq ask pl c) (w : Nat → Int64) {S : zSt} {j : Nat} {d : Nat → Nat} {key x like t : Nat} (hj : j < c) (hD : zD n pl S j d key x like t) (hx : x ≤ 8) (hl : like < 1000) :
    fX8_ask K cells (nI n) seq S.2.2.2.2.1 w S.1 S.2.1 S.2.2.1 S.2.2.2.2.2.1 S.2.2.2.2.2.2.1 =
      some (zres (zT (zw w) A d (pl j) (znx (fun i => zaH (A i) (pl j)) n n t) x),
        (if zT (zw w) A d (pl j) (znx (fun i => zaH (A i) (pl j)) n n t) x < 8 then upd S.1 j (nI (zT (zw w) A d (pl j) (znx (fun i => zaH (A i) (pl j)) n n t) x)) else S.1),
        (if zT (zw w) A d (pl j) (znx (fun i => zaH (A i) (pl j)) n n t) x < 8 then upd S.2.1 j (nI (if x < zT (zw w) A d (pl j) (znx (fun i => zaH (A i) (pl j)) n n t) x then 1 else like + 1)) else S.2.1),
        (if zT (zw w) A d (pl j) (znx (fun i => zaH (A i) (pl j)) n n t) x < 8 then upd S.2.2.1 j (nI (znx (fun i => zaH (A i) (pl j)) n n t)) else S.2.2.1),
        S.2.2.2.2.2.1 + 1, nI (zch (fun v => if v < 4 then d v else 0))) := by
  obtain ⟨hL, hc4, hseq, hdist⟩ := hC
  obtain ⟨re, te, tu, ke, dp, lp, ch, ky⟩ := S
  obtain ⟨h1, h2, h3, h4, h5, h6, d', h7, h8, h9⟩ := hD
  simp only at h1 h2 h3 h4 h6 h8 ⊢
  subst h1
  obtain ⟨e1, e2, e3, i0, hi0, hp0⟩ := hseq j hj
  have hn := hL.1
  have hn0 : 0 < n := by omega
  have hnx : fX2_nextWith K cells (nI n) (nI (pl j)) (tu j) = some (nI (znx (fun i => zaH (A i) (pl j)) n n t)) := by
    rcases h4 with h4 | ⟨h4, h4'⟩
    · rw [h4]; exact zX2_nextWith K (by omega) hL e2 h5
    · rw [h4, h4']; exact zX2_nextWith0 K (by omega) hL e2 hn0
  have hu := znx_le (fun i => zaH (A i) (pl j)) n n t h5
  have hst : zaH (A (znx (fun i => zaH (A i) (pl j)) n n t)) (pl j) = true := znx_p (p := fun i => zaH (A i) (pl j)) hi0 hp0 h5
  generalize hue : znx (fun i => zaH (A i) (pl j)) n n t = u at *
  have hTl := zT_le (zw w) A d (pl j) u hx
  have hch : zch (zup d' (pl j) 0) = zch (fun v => if v < 4 then d v else 0) := by
    apply zch_cong
    intro v hv
    rw [zq_at, if_pos hv]; exact h9 v hv
  have hleast : fX8_least K (nI (zch (zup d' (pl j) 0))) (nI (zaC (A u) (N u))) (nI (pl j)) (nI x) w = some (zres (zT (zw w) A d (pl j) u x)) := by
    have hdg : zdg (zup d' (pl j) 0) := by
      intro v hv; rw [zq_at]; split
      · exact Or.inl rfl
      · exact h7 v hv
    rw [zX8_least K hK w (hL.2 u hu).1 (N u) hdg e2 hst (by rw [zq_at, if_pos rfl]) hx]
    have e : zlst (zhas (zw w) (A u) (zup d' (pl j) 0) (pl j)) (8 - x) x = zT (zw w) A (zup d' (pl j) 0) (pl j) u x := rfl
    rw [e]
    apply congrArg (fun q => some (zres q))
    exact zT_cong (A := A) (hL.2 u hu).1 (fun v hv => by rw [zq_at]; exact h9 v hv) (pl j) x
  unfold fX8_ask
  rw [zX6_at seq (show j < 4 by omega) (by omega), e1]
  rw [Option.bind_some]
  rw [zX6_at tu (show j < 4 by omega) (by omega)]
  rw [Option.bind_some]
  rw [hnx]
  rw [Option.bind_some]
  rw [zX6_at re (show j < 4 by omega) (by omega), h2]
  rw [Option.bind_some]
  rw [h8, zX1_withoutValue (zdg_lt h7) e2]
  rw [Option.bind_some]
  rw [zX2_at hL hu]
  rw [Option.bind_some]
  rw [hleast]
  rw [Option.bind_some]
  generalize zT (zw w) A d (pl j) u x = r at *
  rw [← hch]
  by_cases hr : r < 8
  · rw [zres_i hr, if_neg (zi_m1 (by omega)), zX6_put _ tu (show j < 4 by omega) (by omega)]
    rw [Option.bind_some]
    rw [zX6_put _ re (show j < 4 by omega) (by omega)]
    rw [Option.bind_some, if_pos hr, if_pos hr, if_pos hr]
    by_cases hq : x < r
    · rw [if_neg (by rw [zi_le (by omega) (by omega)]; omega), if_pos hq]
      unfold fX8_ask_148
      rw [zX6_put _ te (show j < 4 by omega) (by omega)]
      rfl
    · rw [if_pos (by rw [zi_le (by omega) (by omega)]; omega), if_neg hq, zX6_at te (show j < 4 by omega) (by omega), h3]
      rw [Option.bind_some]
      unfold fX8_ask_148
      rw [show (1 : Int32) = nI 1 from rfl, zi_add, zX6_put _ te (show j < 4 by omega) (by omega)]
      rfl
  · have : r = 8 := by omega
    subst this
    rw [zres_8, if_pos rfl]
    simp
