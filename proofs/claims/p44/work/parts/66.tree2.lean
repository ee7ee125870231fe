/-! the class tells whether a query is a tree -/
def zTree (A : Nat → zA) (m : Nat) : Prop := zRed (zmu (fun i => zaS (A i)) (fun _ => false) m)
theorem zX10_r82 (K : Nat) (codes : Nat → Int32) {sets : Nat → Int32} {L : Nat → Nat} {G : Nat → Bool} {m : Nat} (hm : m ≤ 5) (h : zTc sets L G m) (hK : 5 < K) : ∃ b, fX10_reduces_82 K codes (nI m) K 0 sets = some (b, sets) ∧ (b = true ↔ ∀ i, i < m → G i = true) := by
  have e1 : (1 : Int32) = nI 1 := rfl
  obtain ⟨x, ⟨b, hx, hb⟩, e⟩ := z_for (F := fun k i (_ : Unit) => fX10_reduces_82 K codes (nI m) k (nI i) sets) (n := m) (inv := fun i _ => ∀ u, u < i → G u = true)
    (post := fun x => ∃ b, x = (b, sets) ∧ (b = true ↔ ∀ i, i < m → G i = true))
    (by
      intro k i _ hi hinv
      have st : ∀ _ : Unit, fX10_reduces_82 K codes (nI m) (k + 1) (nI i) sets = _ := fun _ => by
        rw [fX10_reduces_82, if_neg (by rw [zi_le (by omega) (by omega)]; omega), zX6_at sets (show i < 5 by omega) (by omega), Option.bind_some]
      have g1 := (h i hi).1
      cases hG : G i
      · right
        refine ⟨_, ⟨false, rfl, ?_⟩, ?_⟩
        · constructor
          · intro q; exact absurd q (by decide)
          · intro q; rw [q i hi] at hG; exact absurd hG (by decide)
        · show fX10_reduces_82 K codes (nI m) (k + 1) (nI i) sets = _
          rw [st (), zTc_f h hi hG, if_neg (zi_m1 (by omega))]
      · left
        refine ⟨(), ?_, ?_⟩
        · intro u hu
          rcases Nat.lt_or_ge u i with q | q
          · exact hinv u q
          · rw [show u = i by omega]; exact hG
        · show fX10_reduces_82 K codes (nI m) (k + 1) (nI i) sets = _
          rw [st (), zTc_t h hi hG, if_pos rfl, ← nI_succ])
    (by
      intro k _ hinv
      refine ⟨_, ⟨true, rfl, fun _ => hinv, fun _ => rfl⟩, ?_⟩
      show fX10_reduces_82 K codes (nI m) (k + 1) (nI m) sets = _
      rw [fX10_reduces_82, if_pos (by rw [zi_le (by omega) (by omega)]; omega)])
    m K 0 () (by omega) (fun u hu => by omega) (by omega)
  refine ⟨b, ?_, hb⟩
  rw [hx] at e
  exact e
theorem zX10_r36 (K : Nat) (hK : 1000 < K) (codes : Nat → Int32) {m : Nat} (hm : m ≤ 5) : ∀ d k j {sets : Nat → Int32} {L : Nat → Nat} {G : Nat → Bool}, zTc sets L G m → zmz L G m ≤ d → d + 1 < k → j + d < 1000000 →
    ∃ b sets', fX10_reduces_36 K codes (nI m) k (nI 1) (nI j) sets = some (b, sets') ∧ (b = true ↔ zRed (zmu L G m)) := by
  have e1 : (1 : Int32) = nI 1 := rfl
  intro d
  induction d with
  | zero =>
    intro k j sets L G h hz hk hj
    obtain ⟨k, rfl⟩ : ∃ z, k = z + 1 := ⟨k - 1, by omega⟩
    obtain ⟨k, rfl⟩ : ∃ z, k = z + 1 := ⟨k - 1, by omega⟩
    have hL : ∀ i, i < m → L i < 16 := fun i hi => (h i hi).1
    have noV : ∀ i v, v < 4 → ¬ zaV1 L G m i v := by
      intro i v hv q
      have := zmz_V q (zx_less ⟨L i, hL i q.1⟩ ⟨v, hv⟩ q.2.2.1).1
      omega
    have noA : ∀ i, ¬ zaA1 L G m i := by
      intro i q
      have := zmz_A q
      omega
    rcases zX10_takeVariable K (by omega) hm h with ⟨i, v, _, hv, a1, _⟩ | ⟨a1, a2⟩
    · exact absurd a1 (noV i v hv)
    · rcases zX10_takeAtom K (by omega) hm h with ⟨i, _, b1, _⟩ | ⟨b1, b2⟩
      · exact absurd b1 (noA i)
      · obtain ⟨b, eb, hb⟩ := zX10_r82 K codes hm h (by omega)
        refine ⟨b, sets, ?_, ?_⟩
        · rw [fX10_reduces_36, if_neg (by decide), if_neg (by rw [show (1000000 : Int32) = nI 1000000 from rfl, zi_le (by omega) (by omega)]; omega), a1, Option.bind_some, if_pos (show bI (false, sets).1 = 0 from rfl), b1, Option.bind_some, if_pos (show bI (false, sets).1 = 0 from rfl)]
          unfold fX10_reduces_73
          rw [fX10_reduces_36, if_pos rfl]
          unfold fX10_reduces_80
          exact eb
        · rw [hb, zRed_end (zyS_end hL noV noA), zmu_0]
  | succ d ih =>
    intro k j sets L G h hz hk hj
    obtain ⟨k, rfl⟩ : ∃ z, k = z + 1 := ⟨k - 1, by omega⟩
    have hL : ∀ i, i < m → L i < 16 := fun i hi => (h i hi).1
    have st : ∀ _ : Unit, fX10_reduces_36 K codes (nI m) (k + 1) (nI 1) (nI j) sets = _ := fun _ => by
      rw [fX10_reduces_36, if_neg (by decide), if_neg (by rw [show (1000000 : Int32) = nI 1000000 from rfl, zi_le (by omega) (by omega)]; omega)]
    rcases zX10_takeVariable K (by omega) hm h with ⟨i, v, s1, hv, a1, a2, a3⟩ | ⟨a1, a2⟩
    · have hlt := zmz_V a1 (zx_less ⟨L i, hL i a1.1⟩ ⟨v, hv⟩ a1.2.2.1).1
      obtain ⟨b, s2, eb, hb⟩ := ih k (j + 1) a3 (by omega) (by omega) (by omega)
      refine ⟨b, s2, ?_, ?_⟩
      · rw [st (), a2, Option.bind_some, if_neg (show ¬ bI (true, s1).1 = 0 from (by decide : ¬ bI true = 0))]
        unfold fX10_reduces_68 fX10_reduces_73
        rw [e1, zi_add]
        exact eb
      · rw [hb, zRed_yS (zaV1_s a1)]
    · rcases zX10_takeAtom K (by omega) hm h with ⟨i, s1, b1, b2, b3⟩ | ⟨b1, b2⟩
      · have hlt := zmz_A b1
        obtain ⟨b, s2, eb, hb⟩ := ih k (j + 1) b3 (by omega) (by omega) (by omega)
        refine ⟨b, s2, ?_, ?_⟩
        · rw [st (), a1, Option.bind_some, if_pos (show bI (false, sets).1 = 0 from rfl), b2, Option.bind_some, if_neg (show ¬ bI (true, s1).1 = 0 from (by decide : ¬ bI true = 0))]
          unfold fX10_reduces_68 fX10_reduces_73
          rw [e1, zi_add]
          exact eb
        · rw [hb, zRed_yS (zaA1_s b1)]
      · obtain ⟨k, rfl⟩ : ∃ z, k = z + 1 := ⟨k - 1, by omega⟩
        obtain ⟨b, eb, hb⟩ := zX10_r82 K codes hm h (by omega)
        refine ⟨b, sets, ?_, ?_⟩
        · rw [st (), a1, Option.bind_some, if_pos (show bI (false, sets).1 = 0 from rfl), b1, Option.bind_some, if_pos (show bI (false, sets).1 = 0 from rfl)]
          unfold fX10_reduces_73
          rw [fX10_reduces_36, if_pos rfl]
          unfold fX10_reduces_80
          exact eb
        · rw [hb, zRed_end (zyS_end hL a2 b2), zmu_0]
theorem zX10_reduces (K : Nat) (hK : 1000 < K) {codes : Nat → Int32} {A : Nat → zA} {m : Nat} (hL : zL codes m A (fun _ => false)) (sets : Nat → Int32) : ∃ b sets', fX10_reduces K codes (nI m) sets = some (b, sets') ∧ (b = true ↔ zTree A m) := by
  have hm := hL.1
  obtain ⟨s1, h1, e⟩ := z_forD (F := fun k i (z : Nat → Int32) => fX10_reduces_2 K codes (nI m) k (nI i) z) (n := m) (inv := fun i z => ∀ j, j < i → z j = nI (zaS (A j))) (D := fun z => fX10_reduces_36 K codes (nI m) K (nI 1) (nI 0) z)
    (by
      intro k i z hi hz
      refine ⟨upd z i (nI (zaS (A i))), ?_, ?_⟩
      · intro j hj
        rw [zu_at]
        by_cases g : j = i
        · rw [if_pos g, g]
        · rw [if_neg g]; exact hz j (by omega)
      · show fX10_reduces_2 K codes (nI m) (k + 1) (nI i) z = _
        rw [fX10_reduces_2, if_neg (by rw [zi_le (by omega) (by omega)]; omega), zX2_at hL hi, Option.bind_some, zX1_variables (hL.2 i hi).1 false, Option.bind_some, zX6_put _ z (show i < 5 by omega) (by omega), Option.bind_some, ← nI_succ])
    (by
      intro k z _
      show fX10_reduces_2 K codes (nI m) (k + 1) (nI m) z = _
      rw [fX10_reduces_2, if_pos (by rw [zi_le (by omega) (by omega)]; omega)]; rfl)
    m K 0 sets (by omega) (fun j hj => by omega) (by omega)
  have ht : zTc s1 (fun i => zaS (A i)) (fun _ => false) m := by
    intro i hi
    show zaS (A i) < 16 ∧ s1 i = if false = true then (-1 : Int32) else nI (zaS (A i))
    rw [if_neg (by decide)]
    exact ⟨zaS_lt (hL.2 i hi).1, h1 i hi⟩
  have hz := zmz_le (L := fun i => zaS (A i)) (G := fun _ => false) (m := m) (fun i hi => zaS_lt (hL.2 i hi).1) m (Nat.le_refl _)
  obtain ⟨b, s2, eb, hb⟩ := zX10_r36 K hK codes hm 80 K 0 ht (by omega) (by omega) (by omega)
  refine ⟨b, s2, ?_, hb⟩
  unfold fX10_reduces
  have e' : fX10_reduces_2 K codes (nI m) K 0 sets = fX10_reduces_36 K codes (nI m) K (nI 1) (nI 0) s1 := e
  rw [e', eb]
