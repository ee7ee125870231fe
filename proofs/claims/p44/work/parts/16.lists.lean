/-! lists of atoms -/
/-- the cells c hold n atoms A, with not where N says so -/
def zL (c : Nat → Int32) (n : Nat) (A : Nat → zA) (N : Nat → Bool) : Prop := n ≤ 5 ∧ ∀ i, i < n → zaOK (A i) ∧ c i = nI (zaC (A i) (N i))
theorem zX2_at {c : Nat → Int32} {n : Nat} {A : Nat → zA} {N : Nat → Bool} (h : zL c n A N) {i : Nat} (hi : i < n) : fX2_at c (nI i) = some (nI (zaC (A i) (N i))) := by
  unfold fX2_at
  have := h.1
  rw [zX6_at c (by omega) (by omega), (h.2 i hi).2]; rfl
theorem zX2_add {c : Nat → Int32} {n : Nat} {A : Nat → zA} {N : Nat → Bool} (h : zL c n A N) (hn : n < 5) {a : zA} {b : Bool} (ha : zaOK a) : fX2_add (nI (zaC a b)) c (nI n) = some (upd c n (nI (zaC a b)), nI (n + 1)) ∧ zL (upd c n (nI (zaC a b))) (n + 1) (zup A n a) (zup N n b) := by
  constructor
  · unfold fX2_add
    rw [zX6_put _ c hn (by omega)]
    simp (disch := omega) only [zi_lit, zi_le, Option.bind_some, zi_add]
    rw [if_neg (by omega)]
  · refine ⟨by omega, ?_⟩
    intro i hi
    by_cases e : i = n
    · subst e; rw [zq_at, zq_at, zu_at, if_pos rfl, if_pos rfl, if_pos rfl]; exact ⟨ha, rfl⟩
    · rw [zq_at, zq_at, zu_at, if_neg e, if_neg e, if_neg e]; exact h.2 i (by omega)
/-- all variables of the atoms with not, or of those without -/
def zLV (A : Nat → zA) (N : Nat → Bool) (b : Bool) : Nat → Nat
  | 0 => 0
  | n + 1 => zLV A N b n ||| (if N n = b then zaS (A n) else 0)
theorem zLV_lt {A : Nat → zA} {N : Nat → Bool} {b : Bool} : ∀ {n : Nat}, (∀ i, i < n → zaOK (A i)) → zLV A N b n < 16
  | 0, _ => by show 0 < 16; decide
  | n + 1, h => by
    have h1 := zLV_lt (A := A) (N := N) (b := b) (n := n) (fun i hi => h i (by omega))
    have h2 := zaS_lt (h n (by omega))
    show zLV A N b n ||| _ < 2 ^ 4
    apply Nat.or_lt_two_pow h1
    split
    · exact h2
    · decide
def zany (p : Nat → Bool) : Nat → Bool
  | 0 => false
  | n + 1 => zany p n || p n
theorem zany_iff {p : Nat → Bool} : ∀ {n : Nat}, zany p n = true ↔ ∃ i, i < n ∧ p i = true
  | 0 => by simp [zany]
  | n + 1 => by
    rw [zany, Bool.or_eq_true, zany_iff]
    constructor
    · rintro (⟨i, hi, h⟩ | h)
      · exact ⟨i, by omega, h⟩
      · exact ⟨n, by omega, h⟩
    · rintro ⟨i, hi, h⟩
      rcases Nat.lt_or_ge i n with h1 | h1
      · exact Or.inl ⟨i, h1, h⟩
      · have : i = n := by omega
        subst this; exact Or.inr h
theorem zLV_bit {A : Nat → zA} {N : Nat → Bool} {b : Bool} {v : Nat} (hv : v < 4) : ∀ {n : Nat}, (∀ i, i < n → zaOK (A i)) → (zLV A N b n).testBit v = zany (fun i => decide (N i = b) && zaH (A i) v) n
  | 0, _ => by show (0 : Nat).testBit v = false; simp
  | n + 1, h => by
    rw [zany, ← zLV_bit hv (fun i hi => h i (by omega))]
    show (zLV A N b n ||| _).testBit v = _
    rw [Nat.testBit_or]
    congr 1
    split
    · rename_i e; rw [zaS_bit (h n (by omega)) hv]; simp [e]
    · rename_i e; simp [e]
theorem zX2_variables (K : Nat) (hK : 5 < K) {c : Nat → Int32} {n : Nat} {A : Nat → zA} {N : Nat → Bool} (h : zL c n A N) (b : Bool) : fX2_variables K c (nI n) (bI b) = some (nI (zLV A N b n)) := by
  unfold fX2_variables
  have hn := h.1
  obtain ⟨r, hr, e⟩ := z_for (F := fun k i (s : Nat) => fX2_variables_4 K c (nI n) (bI b) k (nI s) (nI i)) (n := n) (inv := fun i s => s = zLV A N b i) (post := fun s => s = nI (zLV A N b n))
    (by
      intro k i s hi hv
      subst hv
      left
      refine ⟨_, rfl, ?_⟩
      have ha := (h.2 i hi).1
      have hb : (bI (N i) = bI b) = (N i = b) := by cases N i <;> cases b <;> decide
      simp (disch := omega) only [fX2_variables_4, fX2_variables_41, zX6_at, (h.2 i hi).2, zX1_isNot ha, zX1_variables ha, Option.bind_some, zi_lit, zi_le, zi_add, zi_or, hb]
      rw [if_neg (by omega)]
      show _ = fX2_variables_4 K c (nI n) (bI b) k (nI (zLV A N b i ||| if N i = b then zaS (A i) else 0)) (nI (i + 1))
      by_cases e : N i = b
      · rw [if_pos e, if_pos e]
      · rw [if_neg e, if_neg e])
    (by
      intro k s hv
      subst hv
      refine ⟨_, rfl, ?_⟩
      simp (disch := omega) only [fX2_variables_4, zi_le]
      rw [if_pos (by omega)])
    n K 0 0 (by omega) rfl (by omega)
  rw [hr] at e; exact e
theorem zX2_standing (K : Nat) (hK : 5 < K) {c : Nat → Int32} {n : Nat} {A : Nat → zA} {N : Nat → Bool} (h : zL c n A N) {v : Nat} (hv : v < 4) : fX2_standing K c (nI n) (nI v) = some (nI (zcnt (fun i => zaH (A i) v) n)) := by
  unfold fX2_standing
  have hn := h.1
  obtain ⟨r, hr, e⟩ := z_for (F := fun k i (s : Nat) => fX2_standing_4 K c (nI n) (nI v) k (nI s) (nI i)) (n := n) (inv := fun i s => s = zcnt (fun i => zaH (A i) v) i) (post := fun s => s = nI (zcnt (fun i => zaH (A i) v) n))
    (by
      intro k i s hi hs
      subst hs
      left
      refine ⟨_, rfl, ?_⟩
      have ha := (h.2 i hi).1
      simp (disch := omega) only [fX2_standing_4, fX2_standing_33, zX6_at, (h.2 i hi).2, zX1_stands ha _ hv, Option.bind_some, zi_lit, zi_le, zi_add, zi_b0]
      rw [if_neg (by omega), zcnt_s]
      cases zaH (A i) v <;> simp)
    (by
      intro k s hs
      subst hs
      refine ⟨_, rfl, ?_⟩
      simp (disch := omega) only [fX2_standing_4, zi_le]
      rw [if_pos (by omega)])
    n K 0 0 (by omega) rfl (by omega)
  rw [hr] at e; exact e
/-- the next place in turn -/
def znx (p : Nat → Bool) (n : Nat) : Nat → Nat → Nat
  | 0, t => t
  | k + 1, t => if p (if t + 1 < n then t + 1 else 0) = true then (if t + 1 < n then t + 1 else 0) else znx p n k (if t + 1 < n then t + 1 else 0)
theorem znx_le (p : Nat → Bool) (n : Nat) : ∀ k t, t < n → znx p n k t < n
  | 0, t, h => h
  | k + 1, t, h => by
    rw [znx]
    have : (if t + 1 < n then t + 1 else 0) < n := by split <;> omega
    generalize (if t + 1 < n then t + 1 else 0) = t' at this ⊢
    split
    · exact this
    · exact znx_le p n k _ this
theorem zX2_nw (K : Nat) (hK : 5 < K) {c : Nat → Int32} {n : Nat} {A : Nat → zA} {N : Nat → Bool} (h : zL c n A N) {v : Nat} (hv : v < 4) {t : Nat} (ht : t < n) (P2 : Int32) : fX2_nextWith_5 K c (nI n) (nI v) P2 K (nI t) (0 : Int32) = some (nI (znx (fun i => zaH (A i) v) n n t)) := by
  have hn := h.1
  obtain ⟨r, hr, e⟩ := z_for (F := fun k i (s : Nat) => fX2_nextWith_5 K c (nI n) (nI v) P2 k (nI s) (nI i)) (n := n) (inv := fun i s => s < n ∧ znx (fun i => zaH (A i) v) n (n - i) s = znx (fun i => zaH (A i) v) n n t) (post := fun s => s = nI (znx (fun i => zaH (A i) v) n n t))
    (by
      intro k i s hi hs
      obtain ⟨hs, he⟩ := hs
      have hs1 : (if s + 1 < n then s + 1 else 0) < n := by split <;> omega
      have hni : n - i = (n - (i + 1)) + 1 := by omega
      rw [hni, znx] at he
      have ha := (h.2 _ hs1).1
      have hc := (h.2 _ hs1).2
      have e1 : fX2_nextWith_5 K c (nI n) (nI v) P2 (k + 1) (nI s) (nI i) = fX2_nextWith_31 K c (nI n) (nI v) P2 (fX2_nextWith_5 K c (nI n) (nI v) P2 k) (nI i) (nI (if s + 1 < n then s + 1 else 0)) := by
        simp (disch := omega) only [fX2_nextWith_5, zi_lit, zi_le, zi_lt, zi_add]
        rw [if_neg (by omega)]
        split <;> rfl
      rw [e1]
      generalize (if s + 1 < n then s + 1 else 0) = s' at *
      simp (disch := omega) only [fX2_nextWith_31, zX6_at, hc, zX1_stands ha _ hv, Option.bind_some, zi_lit, zi_b0, zi_add]
      cases hp : zaH (A s') v
      · left
        refine ⟨s', ⟨hs1, ?_⟩, by simp⟩
        rw [hp] at he; simpa using he
      · right
        rw [hp] at he
        refine ⟨nI s', by rw [← he]; simp, by simp⟩)
    (by
      intro k s hs
      obtain ⟨hs, he⟩ := hs
      rw [Nat.sub_self] at he
      refine ⟨_, congrArg nI he, ?_⟩
      simp (disch := omega) only [fX2_nextWith_5, zi_le, znx]
      rw [if_pos (by omega)])
    n K 0 t (by omega) ⟨ht, rfl⟩ (by omega)
  rw [hr] at e; exact e
theorem zX2_nextWith (K : Nat) (hK : 5 < K) {c : Nat → Int32} {n : Nat} {A : Nat → zA} {N : Nat → Bool} (h : zL c n A N) {v : Nat} (hv : v < 4) {t : Nat} (ht : t < n) : fX2_nextWith K c (nI n) (nI v) (nI t) = some (nI (znx (fun i => zaH (A i) v) n n t)) := zX2_nw K hK h hv ht (nI t)
theorem zX2_nextWith0 (K : Nat) (hK : 5 < K) {c : Nat → Int32} {n : Nat} {A : Nat → zA} {N : Nat → Bool} (h : zL c n A N) {v : Nat} (hv : v < 4) (hn0 : 0 < n) : fX2_nextWith K c (nI n) (nI v) (-1) = some (nI (znx (fun i => zaH (A i) v) n n (n - 1))) := by
  rw [← zX2_nw K hK h hv (show n - 1 < n by omega) (-1)]
  unfold fX2_nextWith
  have hn := h.1
  obtain ⟨k, hk⟩ : ∃ k, K = k + 1 := ⟨K - 1, by omega⟩
  have e3 : n - 1 + 1 = n := by omega
  have e4 : -nI 1 + nI 1 = nI 0 := by decide
  have hneg : ¬ nI n ≤ nI 0 := fun q => by have := (zi_le (by omega) (by omega)).mp q; omega
  have gen : ∀ F, fX2_nextWith_5 F c (nI n) (nI v) (-1) (k + 1) (-1) (0 : Int32) = fX2_nextWith_5 F c (nI n) (nI v) (-1) (k + 1) (nI (n - 1)) (0 : Int32) := by
    intro F
    have e1 : (1 : Int32) = nI 1 := rfl
    have e0 : (0 : Int32) = nI 0 := rfl
    rw [fX2_nextWith_5, fX2_nextWith_5, e1, e0, e4, zi_add, e3]
    rw [if_neg hneg, if_neg hneg, if_pos ((zi_lt (by omega) (by omega)).mpr hn0), if_neg (fun q => Nat.lt_irrefl n ((zi_lt (by omega) (by omega)).mp q))]
  rw [hk]; exact gen (k + 1)
