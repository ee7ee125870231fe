/-! the reference: a query's atoms, its variables, its places -/
theorem zi_rem2 (a d : Nat) : nI a - nI (a / d) * nI d = nI (a % d) := by
  have h : a / d * d ≤ a := Nat.div_mul_le_self a d
  rw [zi_mul, zi_sub h]
  congr 1
  have := Nat.div_add_mod a d
  rw [Nat.mul_comm] at this; omega
def zqn (s : Nat → Nat) (q : Nat) : Nat := s (2570 + 21 * q)
def zqp (q i : Nat) : Nat := 2570 + 21 * q + 1 + 4 * i
def zqa (s : Nat → Nat) (q i : Nat) : zA := zat s (zqp q i)
def zQ (s : Nat → Nat) (q : Nat) : Prop := zqn s q ≤ 5 ∧ ∀ i, i < zqn s q → zaOK (zqa s q i)
theorem zX12_atoms {now : Nat → Int32} {s : Nat → Nat} (h : zM now s) {q : Nat} (hq : q < 4) : fX12_atoms now (nI q) = some (nI (zqn s q)) := by
  simp (disch := omega) only [fX12_atoms, zi_lit, zi_add, zi_mul, zi_inB, zi_clamp, (h (2570 + 21 * q) (by omega)).1]
  rw [if_pos (by omega)]; rfl
theorem zX12_atomAt (q i : Nat) : fX12_atomAt (nI q) (nI i) = some (nI (zqp q i)) := by
  simp only [fX12_atomAt, zi_lit, zi_add, zi_mul]; rfl
/-- the variables of a query -/
def zqv (s : Nat → Nat) (q : Nat) : Nat := zLV (zqa s q) (fun _ => false) false (zqn s q)
theorem zqv_lt {s : Nat → Nat} {q : Nat} (hQ : zQ s q) : zqv s q < 16 := zLV_lt hQ.2
theorem zX12_variablesOfQuery (K : Nat) (hK : 5 < K) {now : Nat → Int32} {s : Nat → Nat} (h : zM now s) {q : Nat} (hq : q < 4) (hQ : zQ s q) : fX12_variablesOfQuery K now (nI q) = some (nI (zqv s q)) := by
  unfold fX12_variablesOfQuery
  have hn := hQ.1
  refine z_forE (F := fun k i (u : Nat) => fX12_variablesOfQuery_4 K now (nI q) k (nI u) (nI i)) (n := zqn s q) (inv := fun i u => u = zLV (zqa s q) (fun _ => false) false i) ?_ ?_ (zqn s q) K 0 0 (by omega) rfl (by omega)
  · intro k i u hi hu
    left
    refine ⟨_, rfl, ?_⟩
    have ha := hQ.2 i hi
    have hb : zqp q i + 3 < 2780 := by unfold zqp; omega
    simp (disch := omega) only [fX12_variablesOfQuery_4, zX12_atoms h hq, zX12_atomAt, zX12_variables K (show 3 < K by omega) h hb ha, Option.bind_some, zi_lit, zi_le, zi_or, zi_add]
    rw [if_neg (by omega), hu]; rfl
  · intro k u hu
    simp (disch := omega) only [fX12_variablesOfQuery_4, zX12_atoms h hq, Option.bind_some, zi_le]
    rw [if_pos (by omega), hu]; rfl
/-- the digit of an order at a place -/
def zod (o j : Nat) : Nat := o / 10 ^ (3 - j) % 10
/-- the places of the variables of a set in an order: how many, and the m-th one -/
def zpc (o bits : Nat) : Nat → Nat
  | 0 => 0
  | j + 1 => zpc o bits j + (bits.testBit (zod o j)).toNat
def zpl (o bits : Nat) : Nat → Nat → Nat
  | 0 => fun _ => 0
  | j + 1 => if bits.testBit (zod o j) = true then zup (zpl o bits j) (zpc o bits j) (zod o j) else zpl o bits j
theorem zpc_le (o bits : Nat) : ∀ j, zpc o bits j ≤ j
  | 0 => Nat.le_refl 0
  | j + 1 => by
    have := zpc_le o bits j
    have h2 : (bits.testBit (zod o j)).toNat ≤ 1 := Bool.toNat_le _
    rw [zpc]; omega
theorem zbit_iff {n v : Nat} (hn : n < 16) : (n / 2 ^ v % 2 = 0) = (n.testBit v = false) := by
  apply propext
  rw [Nat.testBit_eq_decide_div_mod_eq]
  simp
theorem zX12_findsPlaces (K : Nat) (hK : 5 < K) {now : Nat → Int32} {s : Nat → Nat} (h : zM now s) {q : Nat} (hq : q < 4) (hQ : zQ s q) (place : Nat → Int32) (places : Int32) (hd4 : ∀ j, j < 4 → zod (s (2566 + q)) j < 4) :
    ∃ place', fX12_findsPlaces K now (nI q) place places = some (place', nI (zpc (s (2566 + q)) (zqv s q) 4)) ∧ ∀ m, m < zpc (s (2566 + q)) (zqv s q) 4 → place' m = nI (zpl (s (2566 + q)) (zqv s q) 4 m) := by
  unfold fX12_findsPlaces
  rw [zX12_variablesOfQuery K hK h hq hQ]
  simp only [Option.bind_some]
  have hb := zqv_lt hQ
  generalize zqv s q = bits at *
  have hso := (h (2566 + q) (by omega)).2
  have hno := (h (2566 + q) (by omega)).1
  have step : ∀ k j (P : Nat → Int32) n, j < 4 → n ≤ 3 → ∃ P', (P' = if bits.testBit (zod (s (2566 + q)) j) = true then upd P n (nI (zod (s (2566 + q)) j)) else P) ∧ fX12_findsPlaces_15 K now (nI q) (k + 1) (nI bits) (nI (10 ^ (3 - j))) P (nI n) = fX12_findsPlaces_15 K now (nI q) k (nI bits) (nI (10 ^ (3 - j) / 10)) P' (nI (n + (bits.testBit (zod (s (2566 + q)) j)).toNat)) := by
    intro k j P n hj hn
    refine ⟨_, rfl, ?_⟩
    have hp : 0 < 10 ^ (3 - j) := Nat.pow_pos (by decide)
    have hp2 : 10 ^ (3 - j) ≤ 1000 := by
      have : 10 ^ (3 - j) ≤ 10 ^ 3 := Nat.pow_le_pow_right (by decide) (by omega)
      simpa using this
    have hdv : s (2566 + q) / 10 ^ (3 - j) < 10000 := Nat.lt_of_le_of_lt (Nat.div_le_self _ _) hso
    have hz := hd4 j hj
    have hz32 : zod (s (2566 + q)) j % 32 = zod (s (2566 + q)) j := by omega
    have hz' : s (2566 + q) / 10 ^ (3 - j) % 10 = zod (s (2566 + q)) j := rfl
    have ebit := zbit_iff (v := zod (s (2566 + q)) j) hb
    simp (disch := omega) only [fX12_findsPlaces_15, fX12_findsPlaces_69, zi_lit, zi_le, zi_add, zi_inB, zi_clamp, hno, zi_eq, zi_div, zi_rem2, hz', zi_and, zn_and31, hz32, zi_shrP, zn_and1, ebit]
    rw [if_neg (by omega), if_pos (by omega), if_neg (by omega)]
    cases hc : bits.testBit (zod (s (2566 + q)) j)
    · simp
    · rw [if_neg (by decide), if_pos (by omega)]
      simp
  have full : ∀ k (P : Nat → Int32), ∃ P', (∀ m, m < zpc (s (2566 + q)) bits 4 → P' m = nI (zpl (s (2566 + q)) bits 4 m)) ∧ fX12_findsPlaces_15 K now (nI q) (k + 5) (nI bits) (nI 1000) P (nI 0) = some (P', nI (zpc (s (2566 + q)) bits 4)) := by
    intro k P
    have ext : ∀ j (P : Nat → Int32), (∀ m, m < zpc (s (2566 + q)) bits j → P m = nI (zpl (s (2566 + q)) bits j m)) → ∀ P', (P' = if bits.testBit (zod (s (2566 + q)) j) = true then upd P (zpc (s (2566 + q)) bits j) (nI (zod (s (2566 + q)) j)) else P) → (∀ m, m < zpc (s (2566 + q)) bits (j + 1) → P' m = nI (zpl (s (2566 + q)) bits (j + 1) m)) := by
      intro j P hP P' hP' m hm
      rw [zpc] at hm
      rw [hP', zpl]
      cases hc : bits.testBit (zod (s (2566 + q)) j)
      · rw [hc] at hm
        simp only [Bool.toNat_false, Nat.add_zero] at hm
        simpa using hP m hm
      · rw [hc] at hm
        simp only [Bool.toNat_true] at hm
        simp only [if_true]
        rw [zu_at, zq_at]
        split
        · rfl
        · exact hP m (by omega)
    have l0 := zpc_le (s (2566 + q)) bits 0
    have l1 := zpc_le (s (2566 + q)) bits 1
    have l2 := zpc_le (s (2566 + q)) bits 2
    have l3 := zpc_le (s (2566 + q)) bits 3
    obtain ⟨P1, h1, e1⟩ := step (k + 4) 0 P (zpc (s (2566 + q)) bits 0) (by omega) (by omega)
    have i1 := ext 0 P (fun m hm => by exact absurd hm (Nat.not_lt_zero _)) P1 h1
    obtain ⟨P2, h2, e2⟩ := step (k + 3) 1 P1 (zpc (s (2566 + q)) bits 1) (by omega) (by omega)
    have i2 := ext 1 P1 i1 P2 h2
    obtain ⟨P3, h3, e3⟩ := step (k + 2) 2 P2 (zpc (s (2566 + q)) bits 2) (by omega) (by omega)
    have i3 := ext 2 P2 i2 P3 h3
    obtain ⟨P4, h4, e4⟩ := step (k + 1) 3 P3 (zpc (s (2566 + q)) bits 3) (by omega) (by omega)
    have i4 := ext 3 P3 i3 P4 h4
    refine ⟨P4, i4, ?_⟩
    have c0 : (1000 : Nat) = 10 ^ (3 - 0) := rfl
    have c1 : 10 ^ (3 - 0) / 10 = 10 ^ (3 - 1) := rfl
    have c2 : 10 ^ (3 - 1) / 10 = 10 ^ (3 - 2) := rfl
    have c3 : 10 ^ (3 - 2) / 10 = 10 ^ (3 - 3) := rfl
    have c4 : 10 ^ (3 - 3) / 10 = 0 := rfl
    rw [c0, show k + 5 = k + 4 + 1 by omega]
    refine (e1.trans ?_)
    rw [c1]
    refine (e2.trans ?_)
    rw [c2]
    refine (e3.trans ?_)
    rw [c3]
    refine (e4.trans ?_)
    rw [c4, fX12_findsPlaces_15, if_pos (by decide)]
    rfl
  obtain ⟨k, rfl⟩ : ∃ k, K = k + 5 := ⟨K - 5, by omega⟩
  obtain ⟨P', h1, h2⟩ := full k place
  exact ⟨P', h2, h1⟩
