/-! a rule less -/
def zdrop (s : Nat → Nat) (r : Nat) : Nat → Nat := fun i => if i = 2654 then s 2654 - 1 else if zhp r ≤ i ∧ i < 2755 then s (i + 25) else s i
def zsg (r u : Nat) : Nat := if u < r then u else u + 1
theorem zdrop_facts {s : Nat → Nat} (hW : zWF s) {r : Nat} (hr : r < zrn s) : (∀ i, i < 2654 → zdrop s r i = s i) ∧ zrn (zdrop s r) = zrn s - 1 ∧ ∀ u, u < zrn s - 1 → zsg r u < zrn s ∧ zrh (zdrop s r) u = zrh s (zsg r u) ∧ zbn (zdrop s r) u = zbn s (zsg r u) ∧ ∀ i, i < zbn s (zsg r u) → zba (zdrop s r) u i = zba s (zsg r u) i ∧ (zdrop s r) (zbp u i + 4) = s (zbp (zsg r u) i + 4) := by
  have h5 := hW.1
  have hrn := hW.2.2.2.2.2.2.1.1
  have hp : zhp r = 2655 + 25 * r := rfl
  have hlow : ∀ i, i < 2654 → zdrop s r i = s i := fun i hi => by
    unfold zdrop; rw [if_neg (by omega), if_neg (by omega)]
  refine ⟨hlow, by show zdrop s r 2654 = s 2654 - 1; unfold zdrop; rw [if_pos rfl], ?_⟩
  intro u hu
  have hpu : zhp u = 2655 + 25 * u := rfl
  by_cases g : u < r
  · have eσ : zsg r u = u := if_pos g
    rw [eσ]
    have hT : zsmT s (zdrop s r) := ⟨by rw [hlow 0 (by omega)]; exact Nat.le_refl _, fun t ht => hlow _ (by omega)⟩
    obtain ⟨a1, a2, a3⟩ := zrule_same (s' := zdrop s r) hW hT (show u < zrn s by omega) (fun i h1 h2 => by unfold zdrop; rw [if_neg (by omega), if_neg (by omega)])
    exact ⟨by omega, a1, a2, a3⟩
  · have eσ : zsg r u = u + 1 := if_neg g
    rw [eσ]
    obtain ⟨w1, w2⟩ := hW.2.2.2.2.2.2.2.1 (u + 1) (by omega)
    obtain ⟨v1, v2, v3⟩ := hW.2.2.2.2.2.2.1.2 (u + 1) (by omega)
    have hpu1 : zhp (u + 1) = 2655 + 25 * (u + 1) := rfl
    have hsh : ∀ i, zhp u ≤ i → i < zhp u + 25 → zdrop s r i = s (i + 25) := fun i h1 h2 => by
      unfold zdrop; rw [if_neg (by omega), if_pos (by omega)]
    have hz : ∀ p, zhp u ≤ p → p + 4 ≤ zhp u + 25 → s (p + 25) < s 0 → zat (zdrop s r) p = zat s (p + 25) := by
      intro p h1 h2 h3
      have e0 := hsh p h1 (by omega)
      have e1 := hsh (p + 1) (by omega) (by omega)
      have e2 := hsh (p + 2) (by omega) (by omega)
      have e3 := hsh (p + 3) (by omega) (by omega)
      unfold zat
      rw [e0, e1, e2, e3, hlow (1 + s (p + 25)) (by omega), show p + 1 + 25 = p + 25 + 1 by omega, show p + 2 + 25 = p + 25 + 2 by omega, show p + 3 + 25 = p + 25 + 3 by omega]
    have hh : zhp u + 25 = zhp (u + 1) := by omega
    refine ⟨by omega, ?_, ?_, ?_⟩
    · unfold zrh
      rw [hz (zhp u) (Nat.le_refl _) (by omega) (by rw [hh]; exact w1), hh]
    · show zdrop s r (zhp u + 4) = s (zhp (u + 1) + 4)
      rw [hsh _ (by omega) (by omega), show zhp u + 4 + 25 = zhp (u + 1) + 4 by omega]
    · intro i hi
      have hbu : zbp u i = zhp u + 5 + 5 * i := rfl
      have hbu1 : zbp (u + 1) i = zhp (u + 1) + 5 + 5 * i := rfl
      have hb : zbp u i + 25 = zbp (u + 1) i := by omega
      refine ⟨?_, ?_⟩
      · unfold zba
        rw [hz (zbp u i) (by omega) (by omega) (by rw [hb]; exact w2 i hi), hb]
      · rw [hsh _ (by omega) (by omega), show zbp u i + 4 + 25 = zbp (u + 1) i + 4 by omega]
theorem zWF_drop {wd : Nat → Int32} {fa : Nat → Int64} {od hd : Nat → Int32} {qc : Nat → Nat → Int32} {qs : Nat → Int32} {bc : Nat → Nat → Int32} {bs : Nat → Int32} {tt rt : Int32} {s : Nat → Nat} (hW : zWF s) (hS : zSR wd fa od hd qc qs bc bs tt rt s) {r : Nat} (hr : r < zrn s)
    {hd' : Nat → Int32} {bc' : Nat → Nat → Int32} {bs' : Nat → Int32} (hc : ∀ u, u < zrn s - 1 → hd' u = hd (zsg r u) ∧ bs' u = bs (zsg r u) ∧ ∀ j, j < 5 → bc' u j = bc (zsg r u) j) :
    zWF (zdrop s r) ∧ zSR wd fa od hd' qc qs bc' bs' tt (nI (zrn s - 1)) (zdrop s r) := by
  obtain ⟨f1, f2, f3⟩ := zdrop_facts hW hr
  have hrn := hW.2.2.2.2.2.2.1.1
  obtain ⟨d1, d2⟩ := hS.2.2.2.2.2
  refine zWF_rules hW hS f1 ?_ ?_ ?_ ?_
  · refine ⟨by rw [f2]; omega, ?_⟩
    intro u hu
    rw [f2] at hu
    obtain ⟨g0, g1, g2, g3⟩ := f3 u hu
    obtain ⟨b1, b2, b3⟩ := hW.2.2.2.2.2.2.1.2 _ g0
    rw [g1, g2]
    exact ⟨b1, b2, fun i hi => by rw [(g3 i hi).1, (g3 i hi).2]; exact b3 i hi⟩
  · intro u hu
    rw [f2] at hu
    obtain ⟨g0, g1, g2, g3⟩ := f3 u hu
    obtain ⟨b1, b2⟩ := hW.2.2.2.2.2.2.2.1 _ g0
    rw [g1, g2]
    exact ⟨b1, fun i hi => by rw [(g3 i hi).1]; exact b2 i hi⟩
  · obtain ⟨S, hSt⟩ := hW.2.2.2.2.2.2.2.2
    refine ⟨S, ?_⟩
    rintro a u w ⟨r', i, q1, q2, q3, q4, q5⟩
    rw [f2] at q1
    obtain ⟨g0, g1, g2, g3⟩ := f3 r' q1
    rw [g2] at q2
    exact hSt a u w ⟨zsg r r', i, g0, q2, by rw [q3, g1], by rw [q4, (g3 i q2).1], by rw [q5]; unfold zbN; rw [(g3 i q2).2]⟩
  · refine ⟨by rw [f2], ?_⟩
    intro u hu
    rw [f2] at hu
    obtain ⟨g0, g1, g2, g3⟩ := f3 u hu
    obtain ⟨b1, b2, b3⟩ := d2 _ g0
    obtain ⟨c1, c2, c3⟩ := hc u hu
    rw [c1, c2, g1, g2]
    exact ⟨b1, b2, zL_same (zL_copy b3 c3) (fun i hi => ⟨(g3 i hi).1, by unfold zbN; rw [(g3 i hi).2]⟩)⟩
theorem zX9_closeRule (K : Nat) (hK : 10 < K) {n r : Nat} (hr : r < n) (hn : n ≤ 5) (hd : Nat → Int32) (bc : Nat → Nat → Int32) (bs : Nat → Int32) :
    ∃ hd' bc' bs', fX9_closeRule K (nI r) hd bc bs (nI n) = some (hd', bc', bs', nI (n - 1)) ∧ ∀ u, u < n - 1 → hd' u = hd (zsg r u) ∧ bs' u = bs (zsg r u) ∧ ∀ j, j < 5 → bc' u j = bc (zsg r u) j := by
  unfold fX9_closeRule
  have e1 : (1 : Int32) = nI 1 := rfl
  obtain ⟨x, ⟨hd', bc', bs', hx, hp⟩, e⟩ := z_for (F := fun k i (z : (Nat → Int32) × (Nat → Nat → Int32) × (Nat → Int32)) => fX9_closeRule_2 K (nI r) k (nI i) z.1 z.2.1 z.2.2 (nI n)) (n := n - 1)
    (inv := fun i z => r ≤ i ∧ (∀ u, u < i → z.1 u = hd (zsg r u) ∧ z.2.2 u = bs (zsg r u) ∧ ∀ j, j < 5 → z.2.1 u j = bc (zsg r u) j) ∧ ∀ u, i ≤ u → z.1 u = hd u ∧ z.2.2 u = bs u ∧ z.2.1 u = bc u)
    (post := fun x => ∃ hd' bc' bs', x = (hd', bc', bs', nI (n - 1)) ∧ ∀ u, u < n - 1 → hd' u = hd (zsg r u) ∧ bs' u = bs (zsg r u) ∧ ∀ j, j < 5 → bc' u j = bc (zsg r u) j)
    (by
      intro k i z hi hinv
      obtain ⟨h0, h1, h2⟩ := hinv
      left
      obtain ⟨d, ed, hd2⟩ := zX2_copyAny K (by omega) (z.2.1 (i + 1)) (z.2.2 (i + 1)) (z.2.1 i) (z.2.2 i)
      obtain ⟨p1, p2, p3⟩ := h2 (i + 1) (by omega)
      have eσ : zsg r i = i + 1 := if_neg (by omega)
      refine ⟨(upd z.1 i (z.1 (i + 1)), zup z.2.1 i d, zup z.2.2 i (z.2.2 (i + 1))), ⟨by omega, ?_, ?_⟩, ?_⟩
      · intro u hu
        show upd z.1 i (z.1 (i + 1)) u = _ ∧ zup z.2.2 i (z.2.2 (i + 1)) u = _ ∧ ∀ j, j < 5 → zup z.2.1 i d u j = _
        by_cases g : u = i
        · subst g
          rw [zu_at, if_pos rfl, zup_at, zup_at, eσ, p1, p2]
          exact ⟨rfl, rfl, fun j hj => by rw [hd2 j hj, p3]⟩
        · rw [zu_at, if_neg g, zup_ne _ _ g, zup_ne _ _ g]
          exact h1 u (by omega)
      · intro u hu
        show upd z.1 i (z.1 (i + 1)) u = _ ∧ zup z.2.2 i (z.2.2 (i + 1)) u = _ ∧ zup z.2.1 i d u = _
        rw [zu_at, if_neg (by omega), zup_ne _ _ (by omega), zup_ne _ _ (by omega)]
        exact h2 u (by omega)
      · show fX9_closeRule_2 K (nI r) (k + 1) (nI i) z.1 z.2.1 z.2.2 (nI n) = _
        rw [fX9_closeRule_2, e1, zi_add, if_neg (by rw [zi_le (by omega) (by omega)]; omega), zX6_at z.1 (show i + 1 < 5 by omega) (by omega), Option.bind_some, zX6_put _ z.1 (show i < 5 by omega) (by omega), Option.bind_some, zX9_body (show i < 5 by omega), Option.bind_some, zX9_body (show i + 1 < 5 by omega), Option.bind_some, if_pos (by omega), if_pos (by omega), if_neg (by omega), ed, Option.bind_some])
    (by
      intro k z hinv
      refine ⟨_, ⟨z.1, z.2.1, z.2.2, rfl, hinv.2.1⟩, ?_⟩
      show fX9_closeRule_2 K (nI r) (k + 1) (nI (n - 1)) z.1 z.2.1 z.2.2 (nI n) = _
      rw [fX9_closeRule_2, e1, zi_add, if_pos (by rw [zi_le (by omega) (by omega)]; omega), zi_sub (by omega)])
    (n - 1 - r) K r (hd, bc, bs) (by omega) ⟨Nat.le_refl _, fun u hu => ⟨by rw [show zsg r u = u from if_pos hu], by rw [show zsg r u = u from if_pos hu], fun j _ => by rw [show zsg r u = u from if_pos hu]⟩, fun u _ => ⟨rfl, rfl, rfl⟩⟩ (by omega)
  rw [hx] at e
  exact ⟨hd', bc', bs', e, hp⟩
