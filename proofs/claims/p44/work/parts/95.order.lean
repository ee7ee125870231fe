/-! an order told on both sides -/
theorem zord_all : ∀ a b c d : Fin 10, decide ((((0 ||| 1 <<< a.val) ||| 1 <<< b.val) ||| 1 <<< c.val) ||| 1 <<< d.val = 15) = (decide (a.val < 4) && decide (b.val < 4) && decide (c.val < 4) && decide (d.val < 4) && !decide (a.val = b.val) && !decide (a.val = c.val) && !decide (a.val = d.val) && !decide (b.val = c.val) && !decide (b.val = d.val) && !decide (c.val = d.val)) := by decide +kernel
theorem zord_iff {o : Nat} (ho : o < 10000) : ((((0 ||| 1 <<< zod o 0) ||| 1 <<< zod o 1) ||| 1 <<< zod o 2) ||| 1 <<< zod o 3 = 15) ↔ zOr o := by
  have hd : ∀ j, zod o j < 10 := fun j => Nat.mod_lt _ (by decide)
  have h := zord_all ⟨zod o 0, hd 0⟩ ⟨zod o 1, hd 1⟩ ⟨zod o 2, hd 2⟩ ⟨zod o 3, hd 3⟩
  rw [Bool.eq_iff_iff] at h
  simp only [decide_eq_true_eq, Bool.and_eq_true, Bool.not_eq_true', decide_eq_false_iff_not] at h
  rw [h]
  constructor
  · rintro ⟨⟨⟨⟨⟨⟨⟨⟨⟨a, b⟩, c⟩, d⟩, e1⟩, e2⟩, e3⟩, e4⟩, e5⟩, e6⟩
    refine ⟨ho, ?_, ?_⟩
    · intro j hj
      have : j = 0 ∨ j = 1 ∨ j = 2 ∨ j = 3 := by omega
      rcases this with g | g | g | g <;> subst g <;> assumption
    · intro i j hij hj
      have : (i = 0 ∧ (j = 1 ∨ j = 2 ∨ j = 3)) ∨ (i = 1 ∧ (j = 2 ∨ j = 3)) ∨ (i = 2 ∧ j = 3) := by omega
      rcases this with ⟨rfl, g | g | g⟩ | ⟨rfl, g | g⟩ | ⟨rfl, g⟩ <;> subst g <;> assumption
  · rintro ⟨_, g1, g2⟩
    exact ⟨⟨⟨⟨⟨⟨⟨⟨⟨g1 0 (by omega), g1 1 (by omega)⟩, g1 2 (by omega)⟩, g1 3 (by omega)⟩, g2 0 1 (by omega) (by omega)⟩, g2 0 2 (by omega) (by omega)⟩, g2 0 3 (by omega) (by omega)⟩, g2 1 2 (by omega) (by omega)⟩, g2 1 3 (by omega) (by omega)⟩, g2 2 3 (by omega) (by omega)⟩
theorem zord_range {o : Nat} (h : zOr o) : 123 ≤ o ∧ o ≤ 3210 := by
  obtain ⟨h0, g1, g2⟩ := h
  have a0 := g1 0 (by omega)
  have a1 := g1 1 (by omega)
  have a2 := g1 2 (by omega)
  have a3 := g1 3 (by omega)
  have b1 := g2 0 1 (by omega) (by omega)
  have b2 := g2 0 2 (by omega) (by omega)
  have b3 := g2 0 3 (by omega) (by omega)
  have b4 := g2 1 2 (by omega) (by omega)
  have b5 := g2 1 3 (by omega) (by omega)
  have b6 := g2 2 3 (by omega) (by omega)
  have d0 : zod o 0 = o / 1000 := by show o / 1000 % 10 = o / 1000; omega
  have d1 : zod o 1 = o / 100 % 10 := rfl
  have d2 : zod o 2 = o / 10 % 10 := rfl
  have d3 : zod o 3 = o % 10 := by show o / 1 % 10 = o % 10; omega
  have e : o = 1000 * zod o 0 + 100 * zod o 1 + 10 * zod o 2 + zod o 3 := by rw [d0, d1, d2, d3]; omega
  generalize zod o 0 = a at *
  generalize zod o 1 = b at *
  generalize zod o 2 = c at *
  generalize zod o 3 = d at *
  omega
theorem zX11_isOrder (K : Nat) (hK : 10 < K) {o : Nat} (ho : o < 10000) : ∃ b, fX11_isOrder K (nI o) = some b ∧ (b = true ↔ zOr o) := by
  obtain ⟨k, rfl⟩ : ∃ k, K = k + 5 := ⟨K - 5, by omega⟩
  have hd : ∀ j, zod o j < 10 := fun j => Nat.mod_lt _ (by decide)
  have sh : ∀ j, (1 : Int32) <<< (nI (zod o j) &&& 31) = nI (1 <<< zod o j) := fun j => by
    have := hd j
    rw [show (1 : Int32) = nI 1 from rfl, zi_shl 1 (show zod o j < 32 by omega)]
  have step : ∀ m x j, j < 4 → fX11_isOrder_17 (k + 5) (nI o) (m + 1) (nI x) (nI j) = fX11_isOrder_17 (k + 5) (nI o) m (nI (x ||| 1 <<< zod o j)) (nI (j + 1)) := by
    intro m x j hj
    rw [fX11_isOrder_17, if_neg (show ¬ (4 : Int32) ≤ nI j by rw [show (4 : Int32) = nI 4 from rfl, zi_le (by omega) (by omega)]; omega), zX11_digitOf ho hj, Option.bind_some, sh, zi_or, ← nI_succ]
  unfold fX11_isOrder
  rw [if_neg (nI_pos (by omega)), if_pos (by rw [show (9999 : Int32) = nI 9999 from rfl, zi_le (by omega) (by omega)]; omega)]
  show ∃ b, fX11_isOrder_17 (k + 5) (nI o) (k + 4 + 1) (nI 0) (nI 0) = some b ∧ (b = true ↔ zOr o)
  rw [step (k + 4) 0 0 (by omega), step (k + 3) _ 1 (by omega), step (k + 2) _ 2 (by omega), step (k + 1) _ 3 (by omega), fX11_isOrder_17, if_pos (show (4 : Int32) ≤ nI (3 + 1) by decide)]
  have hx : (((0 ||| 1 <<< zod o 0) ||| 1 <<< zod o 1) ||| 1 <<< zod o 2) ||| 1 <<< zod o 3 < 2 ^ 10 := by
    have p : ∀ j, 1 <<< zod o j < 2 ^ 10 := fun j => by
      rw [Nat.one_shiftLeft]
      exact Nat.pow_lt_pow_right (by decide) (hd j)
    exact Nat.or_lt_two_pow (Nat.or_lt_two_pow (Nat.or_lt_two_pow (Nat.or_lt_two_pow (by decide) (p 0)) (p 1)) (p 2)) (p 3)
  have hiff := zord_iff ho
  by_cases g : (((0 ||| 1 <<< zod o 0) ||| 1 <<< zod o 1) ||| 1 <<< zod o 2) ||| 1 <<< zod o 3 = 15
  · rw [g, if_pos (show nI 15 = (15 : Int32) from rfl)]
    exact ⟨true, rfl, fun _ => hiff.1 g, fun _ => rfl⟩
  · rw [if_neg (by rw [show (15 : Int32) = nI 15 from rfl, zi_eq (by omega) (by omega)]; exact g)]
    exact ⟨false, rfl, fun h => absurd h (by decide), fun h => absurd (hiff.2 h) g⟩
theorem zX12_isOrder (K : Nat) (hK : 10 < K) {o : Nat} (ho : o < 10000) : ∃ b, fX12_isOrder K (nI o) = some b ∧ (b = true ↔ zOr o) := by
  obtain ⟨k, rfl⟩ : ∃ k, K = k + 5 := ⟨K - 5, by omega⟩
  have hd : ∀ j, zod o j < 10 := fun j => Nat.mod_lt _ (by decide)
  have sh : ∀ j, (1 : Int32) <<< (nI (zod o j) &&& 31) = nI (1 <<< zod o j) := fun j => by
    have := hd j
    rw [show (1 : Int32) = nI 1 from rfl, zi_shl 1 (show zod o j < 32 by omega)]
  have step : ∀ m x j c, j < 4 → c = 10 ^ (3 - j) → fX12_isOrder_4 (k + 5) (nI o) (m + 1) (nI x) (nI c) = fX12_isOrder_4 (k + 5) (nI o) m (nI (x ||| 1 <<< zod o j)) (nI (c * 10)) := by
    intro m x j c hj hc
    have hc1 : 1 ≤ c := by rw [hc]; exact Nat.pow_pos (by decide)
    have hc2 : c ≤ 1000 := by
      rw [hc, show (1000 : Nat) = 10 ^ 3 from rfl]
      exact Nat.pow_le_pow_right (by decide) (by omega)
    have hdiv : o / c < 10000 := Nat.lt_of_le_of_lt (Nat.div_le_self _ _) ho
    rw [fX12_isOrder_4, if_neg (show ¬ (1000 : Int32) < nI c by rw [show (1000 : Int32) = nI 1000 from rfl, zi_lt (by omega) (by omega)]; omega), if_neg (show ¬ nI c = 0 by rw [show (0 : Int32) = nI 0 from rfl, zi_eq (by omega) (by omega)]; omega), zi_div (by omega) (by omega) (by omega), show (10 : Int32) = nI 10 from rfl, zi_rem (by omega) (by omega) (by omega)]
    have hz : o / c % 10 = zod o j := by rw [hc]; rfl
    rw [hz, sh, zi_or, zi_mul]
  unfold fX12_isOrder
  show ∃ b, fX12_isOrder_4 (k + 5) (nI o) (k + 4 + 1) (nI 0) (nI 1) = some b ∧ (b = true ↔ zOr o)
  rw [step (k + 4) 0 3 1 (by omega) rfl, step (k + 3) _ 2 (1 * 10) (by omega) rfl, step (k + 2) _ 1 (1 * 10 * 10) (by omega) rfl, step (k + 1) _ 0 (1 * 10 * 10 * 10) (by omega) rfl, fX12_isOrder_4, if_pos (show (1000 : Int32) < nI (1 * 10 * 10 * 10 * 10) by decide)]
  have hx : (((0 ||| 1 <<< zod o 3) ||| 1 <<< zod o 2) ||| 1 <<< zod o 1) ||| 1 <<< zod o 0 = (((0 ||| 1 <<< zod o 0) ||| 1 <<< zod o 1) ||| 1 <<< zod o 2) ||| 1 <<< zod o 3 := by
    generalize 1 <<< zod o 0 = a
    generalize 1 <<< zod o 1 = b
    generalize 1 <<< zod o 2 = c
    generalize 1 <<< zod o 3 = d
    rw [Nat.zero_or, Nat.zero_or, Nat.or_comm d c, Nat.or_comm (c ||| d) b, ← Nat.or_assoc, Nat.or_comm (b ||| c ||| d) a, ← Nat.or_assoc, ← Nat.or_assoc]
  have hlt : (((0 ||| 1 <<< zod o 0) ||| 1 <<< zod o 1) ||| 1 <<< zod o 2) ||| 1 <<< zod o 3 < 2 ^ 10 := by
    have p : ∀ j, 1 <<< zod o j < 2 ^ 10 := fun j => by
      rw [Nat.one_shiftLeft]
      exact Nat.pow_lt_pow_right (by decide) (hd j)
    exact Nat.or_lt_two_pow (Nat.or_lt_two_pow (Nat.or_lt_two_pow (Nat.or_lt_two_pow (by decide) (p 0)) (p 1)) (p 2)) (p 3)
  have hiff := zord_iff ho
  rw [hx]
  by_cases g : (((0 ||| 1 <<< zod o 0) ||| 1 <<< zod o 1) ||| 1 <<< zod o 2) ||| 1 <<< zod o 3 = 15
  · rw [g, if_pos (show nI 15 = (15 : Int32) from rfl)]
    exact ⟨true, rfl, fun _ => hiff.1 g, fun _ => rfl⟩
  · rw [if_neg (by rw [show (15 : Int32) = nI 15 from rfl, zi_eq (by omega) (by omega)]; exact g)]
    exact ⟨false, rfl, fun h => absurd h (by decide), fun h => absurd (hiff.2 h) g⟩
theorem zC_order (K : Nat) (hK : 10 < K) (p : Int32) : (∃ o, zOr o ∧ p = nI o ∧ fX11_isOrder K p = some true ∧ fX12_in p 123 3210 = some true ∧ fX12_isOrder K p = some true) ∨ (fX11_isOrder K p = some false ∧ (fX12_in p 123 3210 = some false ∨ (fX12_in p 123 3210 = some true ∧ fX12_isOrder K p = some false))) := by
  have e123 : (123 : Int32) = nI 123 := rfl
  have e3210 : (3210 : Int32) = nI 3210 := rfl
  have e9999 : (9999 : Int32) = nI 9999 := rfl
  have ein : ∀ n, n < 2147483648 → fX12_in (nI n) 123 3210 = some (decide (123 ≤ n ∧ n ≤ 3210)) := by
    intro n hn
    unfold fX12_in
    by_cases a : n < 123
    · rw [if_pos (by rw [e123, zi_lt hn (by omega)]; exact a), decide_eq_false (by omega)]
    · rw [if_neg (by rw [e123, zi_lt hn (by omega)]; exact a)]
      by_cases b : 3210 < n
      · rw [if_pos (by rw [e3210, zi_lt (by omega) hn]; exact b), decide_eq_false (by omega)]
      · rw [if_neg (by rw [e3210, zi_lt (by omega) hn]; exact b), decide_eq_true (by omega)]
  by_cases g : p < 0
  · right
    refine ⟨by unfold fX11_isOrder; rw [if_pos g], Or.inl ?_⟩
    unfold fX12_in
    rw [if_pos]
    rw [Int32.lt_iff_toInt_lt] at g ⊢
    have a : (0 : Int32).toInt = 0 := by decide
    have b : (123 : Int32).toInt = 123 := by decide
    omega
  · obtain ⟨n, hn, rfl⟩ := zI_ex p g
    by_cases h : n < 10000
    · obtain ⟨b, c, hb⟩ := zX11_isOrder K hK h
      obtain ⟨b', d, hb'⟩ := zX12_isOrder K hK h
      cases b
      · right
        refine ⟨c, ?_⟩
        by_cases r : 123 ≤ n ∧ n ≤ 3210
        · right
          refine ⟨by rw [ein n hn, decide_eq_true r], ?_⟩
          cases b'
          · exact d
          · exact absurd (hb.2 (hb'.1 rfl)) (by decide)
        · left; rw [ein n hn, decide_eq_false r]
      · left
        have ho := hb.1 rfl
        have r := zord_range ho
        have hbt := hb'.2 ho
        subst hbt
        exact ⟨n, ho, rfl, c, by rw [ein n hn, decide_eq_true r], d⟩
    · right
      refine ⟨?_, Or.inl (by rw [ein n hn, decide_eq_false (by omega)])⟩
      unfold fX11_isOrder
      rw [if_neg g, if_neg (by rw [e9999, zi_le hn (by omega)]; omega)]
theorem zI_setOrder (K : Nat) (hK : 1000000 < K) {wd : Nat → Int32} {fa : Nat → Int64} {od hd : Nat → Int32} {qc : Nat → Nat → Int32} {qs : Nat → Int32} {bc : Nat → Nat → Int32} {bs : Nat → Int32} {tt rt : Int32} {H : zH12} {w : Nat → Int64} {g re fi : Nat → Int32} {ro im : Int32} {r : zR15} {ff : Int32} {now before : Nat → Int32} {ch : Int32} {row layer : Nat → Int32} {rounds : Int32} {value : Nat → Int32} (h : zIv wd fa od hd qc qs bc bs tt rt H w g re fi ro im r ff now before ch row layer rounds value) (p p2 th : Int32) :
    ∃ e b od' H' ff' now' before' ch', zaph (fX11_setOrder K wd fa hd qc qs bc bs tt rt p p2 od) H ff = some (e, od', zgh H' ff') ∧ fX12_setOrder K p p2 now before ch th = some (b.1, now', before', ch', b.2) ∧ zAg [0, 1] 0 e b ∧ zIv wd fa od' hd qc qs bc bs tt rt H' w g re fi ro im r ff' now' before' ch' row layer rounds value := by
  have h0 := h
  obtain ⟨s, M, hW, hM, hM4, hS, hH, hg, hff, hm, hrow, hl, hro, hval⟩ := h
  rcases zC_query p with ⟨k, hk, rfl, e1, e2⟩ | ⟨e1, e2⟩
  · rcases zC_order K (by omega) p2 with ⟨o, ho, rfl, e3, e4, e5⟩ | ⟨e3, e4⟩
    · obtain ⟨H', before', ch', ek1, ek2, hH'⟩ := zKeepU K (by omega) hW hS hH hm ff
      obtain ⟨hW', hS', hR, hf⟩ := zWF_order hW hS hk ho
      have ho4 := ho.1
      have hm' : zM (upd now (2566 + k) (nI o)) (zup s (2566 + k) o) := zM_up hm (by omega)
      refine ⟨.inr (nI (zqo s k)), (nI (zqo s k), 0), _, H', -1, _, before', ch', ?_, ?_, Or.inr ⟨_, rfl, rfl⟩, zIv_same hW hM hM4 hg hrow hl hro hval r hW' hS' hR hf hH' hm'⟩
      · unfold zaph fX11_setOrder
        rw [e1, Option.bind_some]
        show ((fX11_isOrder K (nI o)).bind _) = _
        rw [e3, Option.bind_some, if_neg (show ¬ bI true = 0 by decide), zX6_at od hk (by omega), Option.bind_some, hS.2.2.2.1 k hk]
        show ((zaph (fX11_keepForUndo K wd fa od hd qc qs bc bs tt rt) H ff).bind _) = _
        rw [ek1, Option.bind_some, zX6_put (nI o) od hk (by omega), Option.bind_some]
      · unfold fX12_setOrder fX12_fails
        have e6 : (2566 : Int32) + nI k = nI (2566 + k) := by rw [show (2566 : Int32) = nI 2566 from rfl, zi_add]
        rw [e2, Option.bind_some, if_neg (show ¬ bI true = 0 by decide), e4, Option.bind_some, if_neg (show ¬ bI true = 0 by decide), e5, Option.bind_some, if_neg (show ¬ bI true = 0 by decide), ek2, Option.bind_some, e6, if_pos (by rw [zi_inB (by omega)]; omega), if_pos (by rw [zi_inB (by omega)]; omega), zi_clamp (by omega), (hm (2566 + k) (by omega)).1]
        rfl
    · refine ⟨.inl 1, (0, 2), od, H, ff, now, before, ch, ?_, ?_, Or.inl ⟨1, by decide, rfl, rfl⟩, h0⟩
      · unfold zaph fX11_setOrder
        rw [e1, Option.bind_some]
        show ((fX11_isOrder K p2).bind _) = _
        rw [e3]; rfl
      · unfold fX12_setOrder fX12_setOrder_37 fX12_fails
        rw [e2, Option.bind_some, if_neg (show ¬ bI true = 0 by decide)]
        rcases e4 with e4 | ⟨e4, e5⟩
        · rw [e4, Option.bind_some, if_pos (show bI false = 0 from rfl)]; rfl
        · rw [e4, Option.bind_some, if_neg (show ¬ bI true = 0 by decide), e5, Option.bind_some, if_pos (show bI false = 0 from rfl)]; rfl
  · refine ⟨.inl 0, (0, 1), od, H, ff, now, before, ch, ?_, ?_, Or.inl ⟨0, by decide, rfl, rfl⟩, h0⟩
    · unfold zaph fX11_setOrder
      rw [e1]; rfl
    · unfold fX12_setOrder fX12_fails
      rw [e2, Option.bind_some, if_pos (show bI false = 0 from rfl)]; rfl
