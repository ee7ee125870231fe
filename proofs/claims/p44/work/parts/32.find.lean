/-! all answers of a list of atoms, as bits -/
def zkb (w : Nat → Int64) (y : Nat) : Bool := zb (w (y / 64)) (y % 64)
theorem zkb_add (w : Nat → Int64) {k : Nat} (hk : k < 4096) (y : Nat) (hy : y < 4096) : zkb (vp_updL w (k / 64) (w (k / 64) ||| ((1 : Int64) <<< ((nI (k % 64)).toInt64 &&& 63)))) y = (zkb w y || decide (y = k)) := by
  unfold zkb
  rw [zl_at]
  split
  · rename_i h
    rw [zb_or, zb_1 (by omega) (by omega), h]
    congr 1
    rw [decide_eq_decide]; omega
  · rename_i h
    rw [decide_eq_false (by omega), Bool.or_false]
abbrev zR15 := (Nat → Int32) × Int32 × (Nat → Int32) × (Nat → Int32) × (Nat → Int32) × (Nat → Int32) × (Nat → Int32) × (Nat → Int32) × Int32 × Int32 × Int32 × Int32 × Int32 × (Nat → Int64) × Int32
def zfind (K : Nat) (g1 : Nat → Int32) (g2 o : Int32) (w : Nat → Int64) (k : Nat) (i : Int32) (cells : Nat → Int32) (size : Int32) (seq ask : Nat → Int32) (tot : Int32) (S : zSt) (W : Nat → Int64) (n : Int32) : Option zR15 :=
  fX0_find_25 K g1 g2 o w k i cells size seq ask S.1 S.2.1 S.2.2.1 S.2.2.2.1 tot S.2.2.2.2.1 S.2.2.2.2.2.1 S.2.2.2.2.2.2.1 S.2.2.2.2.2.2.2 W n
theorem zadv_eq (K : Nat) (cells : Nat → Int32) (size : Int32) (seq ask : Nat → Int32) (tot : Int32) (w : Nat → Int64) (S : zSt) : fX8_advance K cells size seq ask tot w S.1 S.2.1 S.2.2.1 S.2.2.2.1 S.2.2.2.2.1 S.2.2.2.2.2.1 S.2.2.2.2.2.2.1 S.2.2.2.2.2.2.2 = zadv K cells size seq ask tot w K (nI 0) S := rfl
def zmem (l : List (Nat × (Nat → Nat))) (y : Nat) : Bool := l.any (fun e => decide (e.1 = y))
theorem zfind_run (K : Nat) (hK : 1000000 < K) (g1 : Nat → Int32) (g2 o : Int32) (w : Nat → Int64) (cells : Nat → Int32) (size : Int32) (seq ask : Nat → Int32) (tot : Int32) (T : zSt) (hT : T.2.2.2.2.1 < 0) :
    ∀ l k i S W t n, zreach (zstep K cells size seq ask tot w) n l S T → n < 100000 → i + l.length ≤ 4096 → l.length < k → (∀ e, e ∈ l → e.1 < 4096) →
      ∃ W', zfind K g1 g2 o w k (nI i) cells size seq ask tot S W (nI t) = some (cells, size, seq, ask, T.1, T.2.1, T.2.2.1, T.2.2.2.1, tot, T.2.2.2.2.1, T.2.2.2.2.2.1, T.2.2.2.2.2.2.1, T.2.2.2.2.2.2.2, W', nI (t + l.length)) ∧ ∀ y, y < 4096 → zkb W' y = (zkb W y || zmem l y) := by
  intro l
  induction l with
  | nil =>
    intro k i S W t n hz hn hi hk he
    obtain ⟨k, rfl⟩ : ∃ q, k = q + 1 := ⟨k - 1, by have : ([] : List (Nat × (Nat → Nat))).length = 0 := rfl; omega⟩
    have hl : ([] : List (Nat × (Nat → Nat))).length = 0 := rfl
    rcases zadv_run K cells size seq ask tot w n [] S T hz hT K 0 (by omega) (by omega) with ⟨_, e⟩ | ⟨e, l', U, n', h1, _⟩
    · refine ⟨W, ?_, fun y _ => by simp [zmem]⟩
      unfold zfind
      rw [fX0_find_25, if_neg (by rw [show (4096 : Int32) = nI 4096 from rfl, zi_lt (by omega) (by omega)]; omega), zadv_eq, e, Option.bind_some]
      rw [if_pos (show bI false = 0 from rfl)]
      rfl
    · exact absurd h1 (by simp)
  | cons a l ih =>
    intro k i S W t n hz hn hi hk he
    obtain ⟨k, rfl⟩ : ∃ q, k = q + 1 := ⟨k - 1, by simp at hk; omega⟩
    simp only [List.length_cons] at hi hk
    rcases zadv_run K cells size seq ask tot w n (a :: l) S T hz hT K 0 (by omega) (by omega) with ⟨h1, _⟩ | ⟨e, l', U, n', h1, hn', e2, e3, e4, e5, e6⟩
    · exact absurd h1 (by simp)
    · have ha : a = e := by simpa using (List.cons.inj h1).1
      have hl : l = l' := (List.cons.inj h1).2
      subst ha hl
      have hk4 := he a (List.mem_cons_self)
      obtain ⟨W', q1, q2⟩ := ih k (i + 1) U (vp_updL W (a.1 / 64) (W (a.1 / 64) ||| ((1 : Int64) <<< ((nI (a.1 % 64)).toInt64 &&& 63)))) (t + 1) n' e6 (by omega) (by omega) (by omega) (fun x hx => he x (List.mem_cons_of_mem _ hx))
      refine ⟨W', ?_, ?_⟩
      · unfold zfind
        rw [fX0_find_25, if_neg (by rw [show (4096 : Int32) = nI 4096 from rfl, zi_lt (by omega) (by omega)]; omega), zadv_eq, e2, Option.bind_some]
        rw [if_neg (show ¬ bI true = 0 by decide)]
        have es : U.2.2.2.2.2.2.2 >>> ((6 : Int32) &&& 31) = nI (a.1 / 64) := by
          rw [e3, show (6 : Int32) = nI 6 from rfl, show (31 : Int32) = nI 31 from rfl, zi_and, zn_and31, zi_shrP (by omega) (by omega)]
        have em : U.2.2.2.2.2.2.2 &&& (63 : Int32) = nI (a.1 % 64) := by
          rw [e3, show (63 : Int32) = nI 63 from rfl, zi_and, zn_and63]
        have b1 : ¬ nI (a.1 / 64) < 0 := nI_pos (by omega)
        have b2 : ¬ (64 : Int32) ≤ nI (a.1 / 64) := by rw [show (64 : Int32) = nI 64 from rfl, zi_le (by omega) (by omega)]; omega
        have b3 : inB (nI (a.1 / 64)) 64 = true := by rw [zi_inB (by omega)]; omega
        show (if U.2.2.2.2.2.2.2 >>> ((6 : Int32) &&& 31) < 0 then _ else _) = _
        rw [es, em]
        rw [if_neg b1, if_neg b2, if_pos b3, if_pos b3, zi_clamp (by omega)]
        unfold fX0_find_103
        rw [show (1 : Int32) = nI 1 from rfl, zi_add, zi_add]
        have : t + (a :: l).length = t + 1 + l.length := by simp; omega
        rw [this]
        exact q1
      · intro y hy
        rw [q2 y hy, zkb_add W hk4 y hy]
        show (_ || zmem l y) = (zkb W y || (decide (a.1 = y) || zmem l y))
        rw [Bool.or_assoc]
        congr 2
        rw [decide_eq_decide]; exact eq_comm
theorem zmem_gen (p : Nat → Bool) (g : Nat → (Nat → Nat)) (key y : Nat) : ∀ n, zmem (zgen p (fun q => (key + q, g q)) n) y = zany (fun q => p q && decide (key + q = y)) n
  | 0 => rfl
  | n + 1 => by
    rw [zgen, zany]
    unfold zmem
    rw [List.any_append]
    congr 1
    · exact zmem_gen p g key y n
    · cases p n <;> simp
theorem zgen_mem {p : Nat → Bool} {g : Nat → (Nat → Nat)} {key : Nat} : ∀ {n e}, e ∈ zgen p (fun q => (key + q, g q)) n → ∃ q, q < n ∧ p q = true ∧ e = (key + q, g q)
  | 0, e, h => by exact absurd h (by simp [zgen])
  | n + 1, e, h => by
    rw [zgen, List.mem_append] at h
    rcases h with h | h
    · obtain ⟨q, h1, h2⟩ := zgen_mem h
      exact ⟨q, by omega, h2⟩
    · cases hp : p n
      · rw [hp] at h; simp at h
      · rw [hp] at h
        simp at h
        exact ⟨n, by omega, hp, h⟩
