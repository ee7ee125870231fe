/-! the class applies a rule -/
def zw8 (D : Nat → Nat) (v : Nat) : Nat := D v % 8
def zbar (R : Nat → Nat → Bool) (s : Nat → Nat) (r : Nat) (D : Nat → Nat) : Bool := zany (fun i => zbN s r i && R (zba s r i).1 (zaR (zba s r i) (zw8 D))) (zbn s r)
theorem zX4_isBarred (K : Nat) (hK : 5 < K) {s : Nat → Nat} (hs : zRul s) {r : Nat} (hr : r < zrn s) {c : Nat → Int32} (hL : zL c (zbn s r) (zba s r) (zbN s r)) (w : Nat → Int64) {D : Nat → Nat} (hD : zdg D) : fX4_isBarred K (nI (zch D)) w c (nI (zbn s r)) = some (zbar (zw w) s r D) := by
  obtain ⟨a1, a2, a3⟩ := hs.2 r hr
  have hD16 := zdg_lt hD
  have e1 : (1 : Int32) = nI 1 := rfl
  unfold fX4_isBarred
  refine z_forE (F := fun k i (_ : Unit) => fX4_isBarred_2 K (nI (zch D)) w c (nI (zbn s r)) k (nI i)) (n := zbn s r) (inv := fun i _ => ∀ j, j < i → (zbN s r j && zw w (zba s r j).1 (zaR (zba s r j) (zw8 D))) = false) ?_ ?_ (zbn s r) K 0 () (by omega) (fun j hj => absurd hj (Nat.not_lt_zero _)) (by omega)
  · intro k i _ hi hinv
    have hA := (a3 i hi).1
    have hl := zaR_lt (a := zba s r i) (zw8 D) (fun v _ => Nat.mod_lt _ (by decide)) hA
    have key : fX4_isBarred_2 K (nI (zch D)) w c (nI (zbn s r)) (k + 1) (nI i) = if (zbN s r i && zw w (zba s r i).1 (zaR (zba s r i) (zw8 D))) = true then some true else fX4_isBarred_2 K (nI (zch D)) w c (nI (zbn s r)) k (nI (i + 1)) := by
      rw [fX4_isBarred_2, if_neg (by rw [zi_le (by omega) (by omega)]; omega), zX2_at hL hi, Option.bind_some, zX1_isNot hA, Option.bind_some]
      unfold fX4_isBarred_50
      cases zbN s r i
      · rw [if_pos (show bI false = 0 from rfl), Bool.false_and, if_neg (by decide), e1, zi_add]
      · have hrow : fX1_row K (nI (zaC (zba s r i) true)) (nI (zch D)) = some (nI (zaR (zba s r i) (zw8 D))) := zX1_row K (by omega) hA true hD16
        rw [if_neg (show ¬ bI true = 0 by decide), Bool.true_and, zX1_table hA, Option.bind_some, hrow, Option.bind_some, zX7_has w hA.1 hl, Option.bind_some]
        cases zw w (zba s r i).1 (zaR (zba s r i) (zw8 D))
        · rw [if_pos (show bI false = 0 from rfl), if_neg (by decide), e1, zi_add]
        · rw [if_neg (show ¬ bI true = 0 by decide), if_pos rfl]
    rw [key]
    by_cases g : (zbN s r i && zw w (zba s r i).1 (zaR (zba s r i) (zw8 D))) = true
    · right
      rw [if_pos g]
      congr 1
      exact (zany_iff.mpr ⟨i, hi, g⟩).symm
    · left
      refine ⟨(), ?_, if_neg g⟩
      intro j hj
      rcases Nat.lt_or_ge j i with q | q
      · exact hinv j q
      · rw [show j = i by omega]; simpa using g
  · intro k _ hinv
    rw [fX4_isBarred_2, if_pos (by rw [zi_le (by omega) (by omega)]; omega)]
    congr 1
    symm
    rw [← Bool.not_eq_true]
    unfold zbar
    rw [zany_iff]
    rintro ⟨j, hj, q⟩
    rw [hinv j hj] at q; exact absurd q (by decide)
abbrev zR16 := (Nat → Int32) × Int32 × (Nat → Int32) × (Nat → Int32) × (Nat → Int32) × (Nat → Int32) × (Nat → Int32) × (Nat → Int32) × Int32 × Int32 × Int32 × Int32 × Int32 × (Nat → Int64) × (Nat → Int32) × (Nat → Int32)
def zfire (K : Nat) (w : Nat → Int64) (heads : Nat → Int32) (bc : Nat → Nat → Int32) (bs : Nat → Int32) (p2 : Int32) (k : Nat) (x3 : Nat) (x4 x5 : Int32) (cells : Nat → Int32) (size : Int32) (seq ask : Nat → Int32) (tot : Int32) (S : zSt) (fr : Nat → Int64) (re fi : Nat → Int32) : Option zR16 :=
  fX4_fire_29 K w heads bc bs p2 k x3 x4 x5 cells size seq ask S.1 S.2.1 S.2.2.1 S.2.2.2.1 tot S.2.2.2.2.1 S.2.2.2.2.2.1 S.2.2.2.2.2.2.1 S.2.2.2.2.2.2.2 fr re fi
/-- what firing a list of choices does -/
def zfres (R : Nat → Nat → Bool) (s : Nat → Nat) (r : Nat) (l : List (Nat × (Nat → Nat))) (fr fr' : Nat → Int64) (re re' fi fi' : Nat → Int32) : Prop :=
  (∀ t k, t < 5 → k < 512 → zw fr' t k = (zw fr t k || (decide (t = (zrh s r).1) && l.any (fun e => !zbar R s r e.2 && decide (zaR (zrh s r) (zw8 e.2) = k))))) ∧
  (∀ t k, t < 5 → k < 512 → re' (512 * t + k) = re (512 * t + k) + nI (if t = (zrh s r).1 then l.countP (fun e => !zbar R s r e.2 && decide (zaR (zrh s r) (zw8 e.2) = k)) else 0)) ∧
  ∀ q, q < 5 → fi' q = fi q + nI (if q = r then l.countP (fun e => !zbar R s r e.2) else 0)
theorem nI_a0 (x : Int32) : x + nI 0 = x := by rw [show nI 0 = 0 from rfl]; exact Int32.add_zero x
theorem zfire_run (K : Nat) (hK : 1000000 < K) {heads : Nat → Int32} {bc : Nat → Nat → Int32} {bs : Nat → Int32} {rt : Int32} {s : Nat → Nat} (hs : zRul s) (hR : zRc heads bc bs rt s) (w : Nat → Int64) {r : Nat} (hr : r < zrn s) (cells : Nat → Int32) (size : Int32) (seq ask : Nat → Int32) (tot : Int32) (T : zSt) (hT : T.2.2.2.2.1 < 0) :
    ∀ l k i S n fr re fi, zreach (zstep K cells size seq ask tot w) n l S T → n < 100000 → i + l.length ≤ 4096 → l.length < k →
      ∃ fr' re' fi', zfire K w heads bc bs (nI r) k r (nI (zaC (zrh s r) false)) (nI i) cells size seq ask tot S fr re fi = some (cells, size, seq, ask, T.1, T.2.1, T.2.2.1, T.2.2.2.1, tot, T.2.2.2.2.1, T.2.2.2.2.2.1, T.2.2.2.2.2.2.1, T.2.2.2.2.2.2.2, fr', re', fi') ∧ zfres (zw w) s r l fr fr' re re' fi fi' := by
  have hrn := hs.1
  obtain ⟨c1, c2, c3⟩ := hR.2 r hr
  have a1 := (hs.2 r hr).1
  have e1 : (1 : Int32) = nI 1 := rfl
  intro l
  induction l with
  | nil =>
    intro k i S n fr re fi hz hn hi hk
    obtain ⟨k, rfl⟩ : ∃ q, k = q + 1 := ⟨k - 1, by have : ([] : List (Nat × (Nat → Nat))).length = 0 := rfl; omega⟩
    have hl : ([] : List (Nat × (Nat → Nat))).length = 0 := rfl
    rcases zadv_run K cells size seq ask tot w n [] S T hz hT K 0 (by omega) (by omega) with ⟨_, e⟩ | ⟨e, l', U, n', h1, _⟩
    · refine ⟨fr, re, fi, ?_, ?_, ?_, ?_⟩
      · unfold zfire
        rw [fX4_fire_29, if_neg (by rw [show (4096 : Int32) = nI 4096 from rfl, zi_lt (by omega) (by omega)]; omega), zadv_eq, e, Option.bind_some]
        rw [if_pos (show bI false = 0 from rfl)]
      · intro t k _ _; simp
      · intro t k _ _; simp [nI_a0]
      · intro q _; simp [nI_a0]
    · exact absurd h1 (by simp)
  | cons a l ih =>
    intro k i S n fr re fi hz hn hi hk
    obtain ⟨k, rfl⟩ : ∃ q, k = q + 1 := ⟨k - 1, by simp at hk; omega⟩
    simp only [List.length_cons] at hi hk
    rcases zadv_run K cells size seq ask tot w n (a :: l) S T hz hT K 0 (by omega) (by omega) with ⟨h1, _⟩ | ⟨e, l', U, n', h1, hn', e2, e3, e4, e5, e6⟩
    · exact absurd h1 (by simp)
    · have ha : a = e := by simpa using (List.cons.inj h1).1
      have hl : l = l' := (List.cons.inj h1).2
      subst ha hl
      have hbar := zX4_isBarred K (by omega) hs hr c3 w e5
      have hD16 := zdg_lt e5
      have hlt := zaR_lt (a := zrh s r) (zw8 a.2) (fun v _ => Nat.mod_lt _ (by decide)) a1
      have hrow : fX1_row K (nI (zaC (zrh s r) false)) (nI (zch a.2)) = some (nI (zaR (zrh s r) (zw8 a.2))) := zX1_row K (by omega) a1 false hD16
      have eqn : ∀ V, (zbar (zw w) s r a.2 = true → V = zfire K w heads bc bs (nI r) k r (nI (zaC (zrh s r) false)) (nI (i + 1)) cells size seq ask tot U fr re fi) → (zbar (zw w) s r a.2 = false → ∀ fr1, fX7_add (nI (zrh s r).1) (nI (zaR (zrh s r) (zw8 a.2))) fr = some fr1 → V = zfire K w heads bc bs (nI r) k r (nI (zaC (zrh s r) false)) (nI (i + 1)) cells size seq ask tot U fr1 (upd re (512 * (zrh s r).1 + zaR (zrh s r) (zw8 a.2)) (re (512 * (zrh s r).1 + zaR (zrh s r) (zw8 a.2)) + 1)) (upd fi r (fi r + 1))) → zfire K w heads bc bs (nI r) (k + 1) r (nI (zaC (zrh s r) false)) (nI i) cells size seq ask tot S fr re fi = V := by
        intro V v1 v2
        unfold zfire
        rw [fX4_fire_29, if_neg (by rw [show (4096 : Int32) = nI 4096 from rfl, zi_lt (by omega) (by omega)]; omega), zadv_eq, e2, Option.bind_some]
        rw [if_neg (show ¬ bI true = 0 by decide), if_pos (by omega)]
        show ((fX4_isBarred K U.2.2.2.2.2.2.1 w (bc r) (bs r)).bind fun q53 => _) = _
        rw [e4, c2, hbar, Option.bind_some]
        unfold fX4_fire_142
        cases hb : zbar (zw w) s r a.2
        · obtain ⟨fr1, ef, _⟩ := zX7_add fr a1.1 hlt
          have ei : nI (zrh s r).1 * (512 : Int32) + nI (zaR (zrh s r) (zw8 a.2)) = nI (512 * (zrh s r).1 + zaR (zrh s r) (zw8 a.2)) := by
            rw [show (512 : Int32) = nI 512 from rfl, zi_mul, zi_add, Nat.mul_comm]
          have h5 := a1.1
          rw [if_pos (show bI false = 0 from rfl), hrow, Option.bind_some, zX1_table a1, Option.bind_some, Option.bind_some, ef, Option.bind_some, ei, zX6_at re (show 512 * (zrh s r).1 + zaR (zrh s r) (zw8 a.2) < 2560 by omega) (by omega), Option.bind_some, zX6_put _ re (show 512 * (zrh s r).1 + zaR (zrh s r) (zw8 a.2) < 2560 by omega) (by omega), Option.bind_some, zX6_at fi (show r < 5 by omega) (by omega), Option.bind_some, zX6_put _ fi (show r < 5 by omega) (by omega), Option.bind_some, v2 hb fr1 ef]
          rw [show nI i + (1 : Int32) = nI (i + 1) from (nI_succ i).symm]
          unfold zfire
          rw [e4]
        · rw [if_neg (show ¬ bI true = 0 by decide), v1 hb, e1, zi_add]
          unfold zfire
          rw [e4]
      have hlen : i + (a :: l).length = i + 1 + l.length := by simp; omega
      cases hb : zbar (zw w) s r a.2
      · obtain ⟨fr1, ef, hf1⟩ := zX7_add fr a1.1 hlt
        obtain ⟨fr', re', fi', q1, q2, q3, q4⟩ := ih k (i + 1) U n' fr1 (upd re (512 * (zrh s r).1 + zaR (zrh s r) (zw8 a.2)) (re (512 * (zrh s r).1 + zaR (zrh s r) (zw8 a.2)) + 1)) (upd fi r (fi r + 1)) e6 (by omega) (by omega) (by omega)
        refine ⟨fr', re', fi', ?_, ?_, ?_, ?_⟩
        · refine Eq.trans (eqn _ ?_ ?_) q1
          · intro g; simp [hb] at g
          · intro _ fr2 ef2
            rw [ef] at ef2; rw [← Option.some.inj ef2]
        · intro t k ht hk
          rw [q2 t k ht hk, hf1 t k ht hk, List.any_cons, hb]
          have ek : decide (k = zaR (zrh s r) (zw8 a.2)) = decide (zaR (zrh s r) (zw8 a.2) = k) := by rw [decide_eq_decide]; exact eq_comm
          rw [ek]
          cases decide (t = (zrh s r).1) <;> simp [Bool.or_assoc]
        · intro t k ht hk
          rw [q3 t k ht hk, zu_at, List.countP_cons, hb]
          by_cases et : t = (zrh s r).1
          · rw [if_pos et, if_pos et]
            by_cases ek : zaR (zrh s r) (zw8 a.2) = k
            · rw [if_pos (by omega), if_pos (by simp [ek]), e1, nI_ass, ← et, ek]
              rw [Nat.add_comm 1]
            · rw [if_neg (by omega), if_neg (by simp [ek]), Nat.add_zero]
          · rw [if_neg et, if_neg et, if_neg (by omega)]
        · intro q hq
          rw [q4 q hq, zu_at, List.countP_cons, hb]
          by_cases eq : q = r
          · rw [if_pos eq, if_pos eq, if_pos eq, if_pos (by simp), e1, nI_ass, eq, Nat.add_comm 1]
          · rw [if_neg eq, if_neg eq, if_neg eq]
      · obtain ⟨fr', re', fi', q1, q2, q3, q4⟩ := ih k (i + 1) U n' fr re fi e6 (by omega) (by omega) (by omega)
        refine ⟨fr', re', fi', ?_, ?_, ?_, ?_⟩
        · refine Eq.trans (eqn _ ?_ ?_) q1
          · intro _; rfl
          · intro g; simp [hb] at g
        · intro t k ht hk
          rw [q2 t k ht hk, List.any_cons, hb]; simp
        · intro t k ht hk
          rw [q3 t k ht hk, List.countP_cons, hb]; simp
        · intro q hq
          rw [q4 q hq, List.countP_cons, hb]; simp
