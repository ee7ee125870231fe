/-! what a call asks first, on both sides -/
theorem zC_in1 (p : Int32) {T : Nat} (hT : T < 1000000) : (∃ n, n < T ∧ p = nI n ∧ fX12_in p 0 (nI T - 1) = some true) ∨ ((p < 0 ∨ nI T ≤ p) ∧ fX12_in p 0 (nI T - 1) = some false) := by
  have e1 : (1 : Int32) = nI 1 := rfl
  unfold fX12_in
  rcases pk_ix p (n := T) (by omega) with h | h | ⟨j, hj, rfl⟩
  · right; rw [if_pos h]; exact ⟨Or.inl h, rfl⟩
  · right
    refine ⟨Or.inr h, ?_⟩
    by_cases h0 : p < 0
    · rw [if_pos h0]
    · rw [if_neg h0, if_pos]
      rw [Int32.lt_iff_toInt_lt, e1, Int32.toInt_sub, zi_toInt (by omega), zi_toInt (by omega), Int.bmod_def]
      rw [Int32.le_iff_toInt_le, zi_toInt (by omega)] at h
      have := Int32.toInt_lt p
      omega
  · left
    refine ⟨j, hj, rfl, ?_⟩
    rw [if_neg (nI_pos (by omega)), e1, zi_sub (by omega), if_neg (by rw [zi_lt (by omega) (by omega)]; omega)]
theorem zC_in2 (p : Int32) {m : Nat} (hm : m < 999999) : (∃ n, n < m + 1 ∧ p = nI n ∧ fX12_in p 0 (nI m) = some true) ∨ ((p < 0 ∨ nI (m + 1) ≤ p) ∧ fX12_in p 0 (nI m) = some false) := by
  have h := zC_in1 p (T := m + 1) (by omega)
  have e : nI (m + 1) - (1 : Int32) = nI m := by rw [show (1 : Int32) = nI 1 from rfl, zi_sub (by omega)]; rfl
  rw [e] at h
  exact h
theorem zC_lt (p : Int32) {T : Nat} (hT : T < 1000000) (h : p < 0 ∨ nI T ≤ p) : p < 0 ∨ (¬ p < 0 ∧ ¬ p < nI T) := by
  by_cases g : p < 0
  · exact Or.inl g
  · rcases h with h | h
    · exact absurd h g
    · exact Or.inr ⟨g, Int32.not_lt.mpr h⟩
theorem zC_table {now : Nat → Int32} {s : Nat → Nat} (h : zM now s) (h5 : s 0 ≤ 5) (p : Int32) : (∃ t, t < s 0 ∧ p = nI t ∧ fX11_needTable (nI (s 0)) p = some (.inr (), ()) ∧ fX12_isTable now p = some true) ∨ (fX11_needTable (nI (s 0)) p = some (.inl 0, ()) ∧ fX12_isTable now p = some false) := by
  have c0 : (0 : Int32).toNatClampNeg = 0 := by decide
  have i0 : inB (0 : Int32) 2780 = true := by decide
  unfold fX11_needTable fX11_needTable_15 fX12_isTable
  rw [if_pos i0, c0, (h 0 (by omega)).1]
  rcases zC_in1 p (T := s 0) (by omega) with ⟨n, hn, rfl, e⟩ | ⟨g, e⟩
  · left
    exact ⟨n, hn, rfl, by rw [if_neg (nI_pos (by omega)), if_pos (by rw [zi_lt (by omega) (by omega)]; exact hn)], by rw [e]; rfl⟩
  · right
    refine ⟨?_, by rw [e]; rfl⟩
    rcases zC_lt p (by omega) g with g | ⟨g1, g2⟩
    · rw [if_pos g]
    · rw [if_neg g1, if_neg g2]
theorem zC_rule {now : Nat → Int32} {s : Nat → Nat} (h : zM now s) (h5 : zrn s ≤ 5) (p : Int32) : (∃ t, t < zrn s ∧ p = nI t ∧ fX11_needRule (nI (zrn s)) p = some (.inr (), ()) ∧ fX12_isRule now p = some true) ∨ (fX11_needRule (nI (zrn s)) p = some (.inl 0, ()) ∧ fX12_isRule now p = some false) := by
  have c0 : (2654 : Int32).toNatClampNeg = 2654 := by decide
  have i0 : inB (2654 : Int32) 2780 = true := by decide
  unfold fX11_needRule fX11_needRule_15 fX12_isRule
  rw [if_pos i0, c0, (h 2654 (by omega)).1]
  rcases zC_in1 p (T := zrn s) (by omega) with ⟨n, hn, rfl, e⟩ | ⟨g, e⟩
  · left
    refine ⟨n, hn, rfl, by rw [if_neg (nI_pos (by omega)), if_pos (by rw [zi_lt (by omega) (by omega)]; exact hn)], ?_⟩
    have e' : fX12_in (nI n) 0 (nI (s 2654) - 1) = some true := e
    rw [e']; rfl
  · right
    refine ⟨?_, ?_⟩
    · rcases zC_lt p (by omega) g with g | ⟨g1, g2⟩
      · rw [if_pos g]
      · rw [if_neg g1, if_neg g2]
    · have e' : fX12_in p 0 (nI (s 2654) - 1) = some false := e
      rw [e']; rfl
theorem zC_query (p : Int32) : (∃ q, q < 4 ∧ p = nI q ∧ fX11_needQuery p = some (.inr (), ()) ∧ fX12_isQuery p = some true) ∨ (fX11_needQuery p = some (.inl 0, ()) ∧ fX12_isQuery p = some false) := by
  unfold fX11_needQuery fX11_needQuery_9 fX12_isQuery
  rcases zC_in2 p (m := 3) (by omega) with ⟨n, hn, rfl, e⟩ | ⟨g, e⟩
  · left
    have e' : fX12_in (nI n) 0 3 = some true := e
    exact ⟨n, hn, rfl, by rw [if_neg (nI_pos (by omega)), if_pos (by rw [show (4 : Int32) = nI 4 from rfl, zi_lt (by omega) (by omega)]; exact hn)], by rw [e']; rfl⟩
  · right
    have e' : fX12_in p 0 3 = some false := e
    refine ⟨?_, by rw [e']; rfl⟩
    rcases zC_lt p (by omega) g with g | ⟨g1, g2⟩
    · rw [if_pos g]
    · rw [if_neg g1, if_neg (show ¬ p < (4 : Int32) from g2)]
theorem zC_value (p : Int32) : (∃ v, v < 8 ∧ p = nI v ∧ fX11_isValue p = some true ∧ fX12_in p 0 7 = some true) ∨ (fX11_isValue p = some false ∧ fX12_in p 0 7 = some false) := by
  unfold fX11_isValue
  rcases zC_in2 p (m := 7) (by omega) with ⟨n, hn, rfl, e⟩ | ⟨g, e⟩
  · left
    have e' : fX12_in (nI n) 0 7 = some true := e
    exact ⟨n, hn, rfl, by rw [if_neg (nI_pos (by omega)), if_neg (by rw [show (8 : Int32) = nI 8 from rfl, zi_le (by omega) (by omega)]; omega)], e'⟩
  · right
    have e' : fX12_in p 0 7 = some false := e
    refine ⟨?_, e'⟩
    rcases zC_lt p (by omega) g with g | ⟨g1, g2⟩
    · rw [if_pos g]
    · rw [if_neg g1, if_pos (show (8 : Int32) ≤ p from Int32.not_lt.mp g2)]
/-- three numbers for the columns of a table -/
theorem zC_cols {w L : Nat} (hw : w ≤ 3) (hL : L < 100) (hL0 : 0 < L) {now : Nat → Int32} {pt : Int32} (hc : fX12_columnsOf now pt = some (nI w)) (a b c : Int32) :
    (∃ x y z, x < L ∧ (if 1 < w then y < L else y = 0) ∧ (if 2 < w then z < L else z = 0) ∧ a = nI x ∧ b = nI y ∧ c = nI z ∧ fX11_areInColumns (nI w) (nI L) a b c = some true ∧ fX12_areRight now pt a b c (nI (L - 1)) = some true) ∨
    (fX11_areInColumns (nI w) (nI L) a b c = some false ∧ fX12_areRight now pt a b c (nI (L - 1)) = some false) := by
  have key : ∀ (p : Int32) {N : Nat}, N < 1000 → 0 < N → (∃ n, n < N ∧ p = nI n ∧ ¬ p < 0 ∧ ¬ nI N ≤ p ∧ fX12_in p 0 (nI (N - 1)) = some true) ∨ ((p < 0 ∨ (¬ p < 0 ∧ nI N ≤ p)) ∧ fX12_in p 0 (nI (N - 1)) = some false) := by
    intro p N hN hN0
    have h := zC_in2 p (m := N - 1) (by omega)
    rw [show N - 1 + 1 = N by omega] at h
    rcases h with ⟨n, hn, rfl, e⟩ | ⟨g, e⟩
    · left
      exact ⟨n, hn, rfl, nI_pos (by omega), by rw [zi_le (by omega) (by omega)]; omega, e⟩
    · right
      refine ⟨?_, e⟩
      rcases zC_lt p (by omega) g with g | ⟨g1, g2⟩
      · exact Or.inl g
      · exact Or.inr ⟨g1, Int32.not_lt.mp g2⟩
  have e1 : (1 : Int32) = nI 1 := rfl
  have eA : fX11_areInColumns (nI w) (nI L) a b c = fX11_areInColumns_22 (nI w) (nI L) a b c (nI (if 1 < w then L else 1)) (nI (if 2 < w then L else 1)) := by
    unfold fX11_areInColumns fX11_areInColumns_10
    by_cases g1 : 1 < w
    · rw [if_neg (by rw [e1, zi_le (by omega) (by omega)]; omega), if_pos g1]
      by_cases g2 : 2 < w
      · rw [if_neg (by rw [show (2 : Int32) = nI 2 from rfl, zi_le (by omega) (by omega)]; omega), if_pos g2]
      · rw [if_pos (by rw [show (2 : Int32) = nI 2 from rfl, zi_le (by omega) (by omega)]; omega), if_neg g2]; rfl
    · rw [if_pos (by rw [e1, zi_le (by omega) (by omega)]; omega), if_neg g1, if_pos (by rw [show (2 : Int32) = nI 2 from rfl, zi_le (by omega) (by omega)]; omega), if_neg (by omega)]; rfl
  have eB : fX12_areRight now pt a b c (nI (L - 1)) = (fX12_in a 0 (nI (L - 1))).bind fun q11 => if (bI q11) = 0 then some false else (fX12_in b 0 (nI ((if 1 < w then L else 1) - 1))).bind fun q31 => if (bI q31) = 0 then some false else (fX12_in c 0 (nI ((if 2 < w then L else 1) - 1))).bind fun q52 => if (bI q52) = 0 then some false else some true := by
    unfold fX12_areRight fX12_areRight_31 fX12_areRight_52
    rw [hc, Option.bind_some]
    by_cases g1 : 1 < w
    · rw [if_neg (show ¬ nI w ≤ (1 : Int32) by rw [e1, zi_le (by omega) (by omega)]; omega), if_pos g1]
      by_cases g2 : 2 < w
      · rw [if_neg (show ¬ nI w ≤ (2 : Int32) by rw [show (2 : Int32) = nI 2 from rfl, zi_le (by omega) (by omega)]; omega), if_pos g2]
      · rw [if_pos (show nI w ≤ (2 : Int32) by rw [show (2 : Int32) = nI 2 from rfl, zi_le (by omega) (by omega)]; omega), if_neg g2]; rfl
    · rw [if_pos (show nI w ≤ (1 : Int32) by rw [e1, zi_le (by omega) (by omega)]; omega), if_neg g1, if_pos (show nI w ≤ (2 : Int32) by rw [show (2 : Int32) = nI 2 from rfl, zi_le (by omega) (by omega)]; omega), if_neg (show ¬ 2 < w by omega)]; rfl
  rw [eA, eB]
  unfold fX11_areInColumns_22
  have hN1 : (if 1 < w then L else 1) < 1000 ∧ 0 < (if 1 < w then L else 1) := by split <;> omega
  have hN2 : (if 2 < w then L else 1) < 1000 ∧ 0 < (if 2 < w then L else 1) := by split <;> omega
  rcases key a (N := L) (by omega) hL0 with ⟨x, hx, rfl, a1, a2, a3⟩ | ⟨a1, a3⟩
  · rw [if_neg a1, if_neg a2, a3, Option.bind_some, if_neg (show ¬ bI true = 0 by decide)]
    rcases key b hN1.1 hN1.2 with ⟨y, hy, rfl, b1, b2, b3⟩ | ⟨b1, b3⟩
    · rw [if_neg b1, if_neg b2, b3, Option.bind_some, if_neg (show ¬ bI true = 0 by decide)]
      rcases key c hN2.1 hN2.2 with ⟨z, hz, rfl, c1, c2, c3⟩ | ⟨c1, c3⟩
      · rw [if_neg c1, if_neg c2, c3, Option.bind_some, if_neg (show ¬ bI true = 0 by decide)]
        left
        refine ⟨x, y, z, hx, ?_, ?_, rfl, rfl, rfl, rfl, rfl⟩
        · by_cases g : 1 < w
          · rw [if_pos g] at hy ⊢; exact hy
          · rw [if_neg g] at hy ⊢; omega
        · by_cases g : 2 < w
          · rw [if_pos g] at hz ⊢; exact hz
          · rw [if_neg g] at hz ⊢; omega
      · right
        rw [c3, Option.bind_some, if_pos (show bI false = 0 from rfl)]
        refine ⟨?_, rfl⟩
        rcases c1 with g | ⟨g1, g2⟩
        · rw [if_pos g]
        · rw [if_neg g1, if_pos g2]
    · right
      rw [b3, Option.bind_some, if_pos (show bI false = 0 from rfl)]
      refine ⟨?_, rfl⟩
      rcases b1 with g | ⟨g1, g2⟩
      · rw [if_pos g]
      · rw [if_neg g1, if_pos g2]
  · right
    rw [a3, Option.bind_some, if_pos (show bI false = 0 from rfl)]
    refine ⟨?_, rfl⟩
    rcases a1 with g | ⟨g1, g2⟩
    · rw [if_pos g]
    · rw [if_neg g1, if_pos g2]
