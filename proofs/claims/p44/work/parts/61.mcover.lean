/-! covers in the reference -/
theorem zbit_and {a v : Nat} (ha : a < 16) (hv : v < 4) : (nI a >>> (nI v &&& 31)) &&& (1 : Int32) = bI (a.testBit v) := by
  rw [zi_shr (by omega) (by omega), show (1 : Int32) = nI 1 from rfl, zi_and, zn_and1, Nat.shiftRight_eq_div_pow]
  have h : ∀ a : Fin 16, ∀ v : Fin 4, nI (a.val / 2 ^ v.val % 2) = bI (a.val.testBit v.val) := by decide
  exact h ⟨a, ha⟩ ⟨v, hv⟩
theorem zb_eq1 (b : Bool) : (bI b = (1 : Int32)) = (b = true) := by cases b <;> decide
theorem zqv_bit {s : Nat → Nat} {q v : Nat} (hQ : zQ s q) (hv : v < 4) : (zqv s q).testBit v = zany (fun i => zaH (zqa s q i) v) (zqn s q) := by
  unfold zqv
  rw [zLV_bit hv hQ.2]
  apply zany_cong
  intro i _
  rw [decide_eq_true rfl, Bool.true_and]
theorem zX12_in03 {v : Nat} (hv : v < 4) : fX12_in (nI v) (0 : Int32) (3 : Int32) = some true := by
  unfold fX12_in
  rw [if_neg (nI_pos (by omega)), if_neg (by rw [show (3 : Int32) = nI 3 from rfl, zi_lt (by omega) (by omega)]; omega)]
theorem zX12_standsIn (K : Nat) (hK : 5 < K) {now : Nat → Int32} {s : Nat → Nat} (h : zM now s) {q : Nat} (hq : q < 4) (hQ : zQ s q) {v : Nat} (hv : v < 4) : fX12_standsIn K now (nI q) (nI v) = some (zany (fun i => zaH (zqa s q i) v) (zqn s q)) := by
  unfold fX12_standsIn
  rw [zX12_in03 hv, Option.bind_some, if_neg (show ¬ bI true = 0 by decide), zX12_variablesOfQuery K hK h hq hQ, Option.bind_some, zbit_and (zqv_lt hQ) hv, zqv_bit hQ hv]
  cases zany (fun i => zaH (zqa s q i) v) (zqn s q)
  · rw [if_neg (show ¬ bI false = 1 by decide)]
  · rw [if_pos (show bI true = 1 from rfl)]
theorem zX12_halves (K : Nat) {n i : Nat} (hn : n < 1000) (hi : i ≤ 5) (hK : 5 < K) : fX12_halves K (nI n) (nI i) = some (nI (zh n i)) := by
  have e1 : (1 : Int32) = nI 1 := rfl
  have e3 : (3 : Int32) = nI 3 := rfl
  unfold fX12_halves
  have e0 : nI n = nI (n / 3 ^ 0) := by rw [Nat.pow_zero, Nat.div_one]
  have main := z_forE (F := fun k j (_ : Unit) => fX12_halves_4 K (nI n) (nI i) k (nI (n / 3 ^ j)) (nI j)) (n := i) (inv := fun _ _ => True) (V := some (nI (zh n i)))
    (by
      intro k j _ hj _
      left
      refine ⟨(), trivial, ?_⟩
      have hq : n / 3 ^ j < 1000 := Nat.lt_of_le_of_lt (Nat.div_le_self _ _) hn
      have hd : n / 3 ^ j / 3 = n / 3 ^ (j + 1) := by rw [Nat.pow_succ, Nat.div_div_eq_div_mul]
      show fX12_halves_4 K (nI n) (nI i) (k + 1) (nI (n / 3 ^ j)) (nI j) = _
      rw [fX12_halves_4, if_neg (by rw [zi_le (by omega) (by omega)]; omega), e3, zi_div (by omega) (by omega) (by omega), hd, e1, zi_add])
    (by
      intro k _ _
      have hq : n / 3 ^ i < 1000 := Nat.lt_of_le_of_lt (Nat.div_le_self _ _) hn
      show fX12_halves_4 K (nI n) (nI i) (k + 1) (nI (n / 3 ^ i)) (nI i) = _
      rw [fX12_halves_4, if_pos (by rw [zi_le (by omega) (by omega)]; omega), e3, zi_rem (by omega) (by omega) (by omega)]
      rfl)
    i K 0 () (by omega) trivial (by omega)
  have main' : fX12_halves_4 K (nI n) (nI i) K (nI (n / 3 ^ 0)) (nI 0) = some (nI (zh n i)) := main
  rw [← e0] at main'
  exact main'
theorem zX12_allHalves (K : Nat) (hK : 5 < K) {now : Nat → Int32} {s : Nat → Nat} (h : zM now s) {q : Nat} (hq : q < 4) (hQ : zQ s q) : fX12_allHalves K now (nI q) = some (nI (3 ^ zqn s q)) := by
  have hn := hQ.1
  have e1 : (1 : Int32) = nI 1 := rfl
  have e3 : (3 : Int32) = nI 3 := rfl
  unfold fX12_allHalves
  refine z_forE (F := fun k i (_ : Unit) => fX12_allHalves_4 K now (nI q) k (nI (3 ^ i)) (nI i)) (n := zqn s q) (inv := fun _ _ => True) ?_ ?_ (zqn s q) K 0 () (by omega) trivial (by omega)
  · intro k i _ hi _
    left
    refine ⟨(), trivial, ?_⟩
    show fX12_allHalves_4 K now (nI q) (k + 1) (nI (3 ^ i)) (nI i) = _
    rw [fX12_allHalves_4, zX12_atoms h hq, Option.bind_some, if_neg (by rw [zi_le (by omega) (by omega)]; omega), e3, zi_mul, e1, zi_add, ← Nat.pow_succ]
  · intro k _ _
    show fX12_allHalves_4 K now (nI q) (k + 1) (nI (3 ^ zqn s q)) (nI (zqn s q)) = _
    rw [fX12_allHalves_4, zX12_atoms h hq, Option.bind_some, if_pos (by rw [zi_le (by omega) (by omega)]; omega)]
theorem zcs_le (A : Nat → zA) (n v : Nat) : ∀ m, zcs A n v m ≤ 2 * m := by
  intro m
  induction m with
  | zero => exact Nat.le_refl 0
  | succ m ih =>
    show zcs A n v m + (if zaH (A m) v = true then zh n m else 0) ≤ _
    have := zh_lt n m
    split <;> omega
theorem zX12_covers (K : Nat) (hK : 5 < K) {now : Nat → Int32} {s : Nat → Nat} (h : zM now s) {q : Nat} (hq : q < 4) (hQ : zQ s q) {n : Nat} (hn : n < 1000) : fX12_covers K now (nI q) (nI n) = some (zkv (zqa s q) (zqn s q) n) := by
  have hm := hQ.1
  have e1 : (1 : Int32) = nI 1 := rfl
  have bi : ∀ b : Bool, (if bI b = (0 : Int32) then some false else if bI b = 1 then some true else none) = some b := by intro b; cases b <;> rfl
  have inner : ∀ (r5 : Int32 → Int32 → Option Bool) (b : Bool) {v : Nat}, v < 4 → ∀ base, base ≤ 2 → fX12_covers_31 K now (nI q) (nI n) r5 K (bI b) (nI v) (nI base) (nI 0) = r5 (bI (b && decide (2 ≤ base + zcs (zqa s q) n v (zqn s q)))) (nI (v + 1)) := by
    intro r5 b v hv base hb
    refine z_forE (F := fun k i (_ : Unit) => fX12_covers_31 K now (nI q) (nI n) r5 k (bI b) (nI v) (nI (base + zcs (zqa s q) n v i)) (nI i)) (n := zqn s q) (inv := fun _ _ => True) ?_ ?_ (zqn s q) K 0 () (by omega) trivial (by omega)
    · intro k i _ hi _
      left
      refine ⟨(), trivial, ?_⟩
      have ha := hQ.2 i hi
      have hbp : zqp q i + 3 < 2780 := by unfold zqp; omega
      have hl := zaS_lt ha
      show fX12_covers_31 K now (nI q) (nI n) r5 (k + 1) (bI b) (nI v) (nI (base + zcs (zqa s q) n v i)) (nI i) = fX12_covers_31 K now (nI q) (nI n) r5 k (bI b) (nI v) (nI (base + (zcs (zqa s q) n v i + (if zaH (zqa s q i) v = true then zh n i else 0)))) (nI (i + 1))
      have hvar : fX12_variables K now (nI (zqp q i)) = some (nI (zaS (zqa s q i))) := zX12_variables K (by omega) h hbp ha
      rw [fX12_covers_31, zX12_atoms h hq, Option.bind_some, if_neg (by rw [zi_le (by omega) (by omega)]; omega), zX12_atomAt, Option.bind_some, hvar, Option.bind_some, zbit_and hl hv, zaS_bit ha hv]
      unfold fX12_covers_72
      cases zaH (zqa s q i) v
      · rw [if_neg (show ¬ bI false = 1 by decide), if_neg (by decide), e1, zi_add]; rfl
      · rw [if_pos (show bI true = 1 from rfl), if_pos rfl, zX12_halves K hn (by omega) hK, Option.bind_some, zi_add, e1, zi_add, Nat.add_assoc]
    · intro k _ _
      have hl := zcs_le (zqa s q) n v (zqn s q)
      show fX12_covers_31 K now (nI q) (nI n) r5 (k + 1) (bI b) (nI v) (nI (base + zcs (zqa s q) n v (zqn s q))) (nI (zqn s q)) = _
      rw [fX12_covers_31, zX12_atoms h hq, Option.bind_some, if_pos (by rw [zi_le (by omega) (by omega)]; omega)]
      unfold fX12_covers_92 fX12_covers_93
      cases b
      · rw [if_pos (show bI false = 0 from rfl), e1, zi_add, Bool.false_and]; rfl
      · rw [if_neg (show ¬ bI true = 0 by decide), Bool.true_and]
        by_cases g : 2 ≤ base + zcs (zqa s q) n v (zqn s q)
        · rw [if_neg (by rw [show (2 : Int32) = nI 2 from rfl, zi_lt (by omega) (by omega)]; omega), decide_eq_true g, e1, zi_add]; rfl
        · rw [if_pos (by rw [show (2 : Int32) = nI 2 from rfl, zi_lt (by omega) (by omega)]; omega), decide_eq_false g, e1, zi_add]; rfl
  unfold fX12_covers
  refine z_forE (F := fun k v (_ : Unit) => fX12_covers_5 K now (nI q) (nI n) k (bI (zall (fun v => !zany (fun i => zaH (zqa s q i) v) (zqn s q) || decide (2 ≤ zcs (zqa s q) n v (zqn s q))) v)) (nI v)) (n := 4) (inv := fun _ _ => True) ?_ ?_ 4 K 0 () (by omega) trivial (by omega)
  · intro k v _ hv _
    left
    refine ⟨(), trivial, ?_⟩
    show fX12_covers_5 K now (nI q) (nI n) (k + 1) (bI (zall (fun v => !zany (fun i => zaH (zqa s q i) v) (zqn s q) || decide (2 ≤ zcs (zqa s q) n v (zqn s q))) v)) (nI v) = fX12_covers_5 K now (nI q) (nI n) k (bI (zall (fun v => !zany (fun i => zaH (zqa s q i) v) (zqn s q) || decide (2 ≤ zcs (zqa s q) n v (zqn s q))) v && (!zany (fun i => zaH (zqa s q i) v) (zqn s q) || decide (2 ≤ zcs (zqa s q) n v (zqn s q))))) (nI (v + 1))
    rw [fX12_covers_5, if_neg (by rw [show (4 : Int32) = nI 4 from rfl, zi_le (by omega) (by omega)]; omega), zX12_standsIn K hK h hq hQ hv, Option.bind_some]
    unfold fX12_covers_26
    rw [show (2 : Int32) = nI 2 from rfl, show (0 : Int32) = nI 0 from rfl, inner _ _ hv 2 (by omega), inner _ _ hv 0 (by omega), Nat.zero_add]
    cases zany (fun i => zaH (zqa s q i) v) (zqn s q)
    · rw [if_pos (show bI false = nI 0 from rfl), decide_eq_true (show 2 ≤ 2 + zcs (zqa s q) n v (zqn s q) by omega)]; rfl
    · rw [if_neg (show ¬ bI true = nI 0 by decide)]; rfl
  · intro k _ _
    show fX12_covers_5 K now (nI q) (nI n) (k + 1) (bI (zall (fun v => !zany (fun i => zaH (zqa s q i) v) (zqn s q) || decide (2 ≤ zcs (zqa s q) n v (zqn s q))) 4)) (nI 4) = _
    rw [fX12_covers_5, if_pos (by decide), bi]
    rfl
theorem zX12_cover (K : Nat) (hK : 1000 < K) {now : Nat → Int32} {s : Nat → Nat} (h : zM now s) {q : Nat} (hq : q < 4) (hQ : zQ s q) (th : Int32) : fX12_cover K now (nI q) th = some (nI (if zqn s q = 0 then 0 else zlH (zqa s q) (zqn s q) (3 ^ zqn s q)), 0) := by
  have hm := hQ.1
  have e1 : (1 : Int32) = nI 1 := rfl
  have h243 : 3 ^ zqn s q ≤ 243 := by
    rw [show (243 : Nat) = 3 ^ 5 from rfl]; exact Nat.pow_le_pow_right (by decide) hm
  have inner : ∀ (r23 : Int32 → Int32 → Int32 → Option (Int32 × Int32)) {n : Nat}, n < 3 ^ zqn s q → fX12_cover_38 K now (nI q) r23 K (nI (zlH (zqa s q) (zqn s q) n)) (nI n) (nI 0) (nI 0) 0 = r23 (nI (zlH (zqa s q) (zqn s q) (n + 1))) (nI (n + 1)) 0 := by
    intro r23 n hn
    refine z_forE (F := fun k i (_ : Unit) => fX12_cover_38 K now (nI q) r23 k (nI (zlH (zqa s q) (zqn s q) n)) (nI n) (nI (zhs n i)) (nI i) 0) (n := zqn s q) (inv := fun _ _ => True) ?_ ?_ (zqn s q) K 0 () (by omega) trivial (by omega)
    · intro k i _ hi _
      left
      refine ⟨(), trivial, ?_⟩
      show fX12_cover_38 K now (nI q) r23 (k + 1) (nI (zlH (zqa s q) (zqn s q) n)) (nI n) (nI (zhs n i)) (nI i) 0 = fX12_cover_38 K now (nI q) r23 k (nI (zlH (zqa s q) (zqn s q) n)) (nI n) (nI (zhs n i + zh n i)) (nI (i + 1)) 0
      rw [fX12_cover_38, zX12_atoms h hq, Option.bind_some, if_neg (by rw [zi_le (by omega) (by omega)]; omega), zX12_halves K (by omega) (by omega) (by omega), Option.bind_some, zi_add, e1, zi_add]
    · intro k _ _
      have h1 := zhs_le n (zqn s q)
      have h2 := zlH_le (zqa s q) (zqn s q) n
      show fX12_cover_38 K now (nI q) r23 (k + 1) (nI (zlH (zqa s q) (zqn s q) n)) (nI n) (nI (zhs n (zqn s q))) (nI (zqn s q)) 0 = _
      rw [fX12_cover_38, zX12_atoms h hq, Option.bind_some, if_pos (by rw [zi_le (by omega) (by omega)]; omega), zX12_covers K (by omega) h hq hQ (by omega), Option.bind_some, zlH]
      unfold fX12_cover_83
      rw [e1, zi_add]
      by_cases g : zlH (zqa s q) (zqn s q) n ≤ zhs n (zqn s q)
      · rw [if_pos (by rw [zi_le (by omega) (by omega)]; exact g), if_neg (fun w => by have := w.2; omega)]
      · rw [if_neg (by rw [zi_le (by omega) (by omega)]; exact g)]
        cases hk : zkv (zqa s q) (zqn s q) n
        · rw [if_pos (show bI false = 0 from rfl), if_neg (fun w => absurd w.1 (by decide))]
        · rw [if_neg (show ¬ bI true = 0 by decide), if_pos ⟨rfl, by omega⟩]
  unfold fX12_cover fX12_isQuery
  rw [zX12_in03 hq, Option.bind_some, Option.bind_some, if_neg (show ¬ bI true = 0 by decide)]
  refine z_forE (F := fun k n (_ : Unit) => fX12_cover_23 K now (nI q) k (nI (zlH (zqa s q) (zqn s q) n)) (nI n) 0) (n := 3 ^ zqn s q) (inv := fun _ _ => True) ?_ ?_ (3 ^ zqn s q) K 0 () (by omega) trivial (by omega)
  · intro k n _ hn _
    left
    refine ⟨(), trivial, ?_⟩
    show fX12_cover_23 K now (nI q) (k + 1) (nI (zlH (zqa s q) (zqn s q) n)) (nI n) 0 = _
    rw [fX12_cover_23, zX12_allHalves K (by omega) h hq hQ, Option.bind_some, if_neg (by rw [zi_le (by omega) (by omega)]; omega)]
    exact inner _ hn
  · intro k _ _
    show fX12_cover_23 K now (nI q) (k + 1) (nI (zlH (zqa s q) (zqn s q) (3 ^ zqn s q))) (nI (3 ^ zqn s q)) 0 = _
    rw [fX12_cover_23, zX12_allHalves K (by omega) h hq hQ, Option.bind_some, if_pos (by rw [zi_le (by omega) (by omega)]; omega), zX12_atoms h hq, Option.bind_some]
    by_cases g : zqn s q = 0
    · rw [if_pos (by rw [g]; rfl), if_pos g]; rfl
    · rw [if_neg (by rw [show (0 : Int32) = nI 0 from rfl, zi_eq (by omega) (by omega)]; exact g), if_neg g]
