/-! the tables that the law reckons: rules at once one after the other -/
/-- a row more -/
def zadd (R : Nat → Nat → Bool) (h c : Nat) (t k : Nat) : Bool := R t k || (decide (t = h) && decide (k = c))
theorem zadd_up {R : Nat → Nat → Bool} {h c t k : Nat} (g : R t k = true) : zadd R h c t k = true := by
  unfold zadd; rw [g]; rfl
theorem zadd_at (R : Nat → Nat → Bool) (h c : Nat) : zadd R h c h c = true := by
  unfold zadd; simp
theorem zadd_of {R : Nat → Nat → Bool} {h c t k : Nat} (g : zadd R h c t k = true) : R t k = true ∨ (t = h ∧ k = c) := by
  unfold zadd at g
  rw [Bool.or_eq_true, Bool.and_eq_true, decide_eq_true_eq, decide_eq_true_eq] at g
  exact g
theorem zF0_add {R : Nat → Nat → Bool} {h c : Nat} (hh : h < 5) (hc : c < 512) (g : R h c = false) : zF0 (zadd R h c) < zF0 R := by
  unfold zF0
  apply zsum_lt (i := 512 * h + c)
  · intro i _
    show (!zadd R h c (i / 512) (i % 512)).toNat ≤ (!R (i / 512) (i % 512)).toNat
    cases e : R (i / 512) (i % 512)
    · exact Bool.toNat_le _
    · rw [zadd_up e]; exact Nat.le_refl _
  · omega
  · have e1 : (512 * h + c) / 512 = h := by omega
    have e2 : (512 * h + c) % 512 = c := by omega
    show (!zadd R h c ((512 * h + c) / 512) ((512 * h + c) % 512)).toNat < (!R ((512 * h + c) / 512) ((512 * h + c) % 512)).toNat
    rw [e1, e2, zadd_at, g]
    decide
theorem zyW_add {R : Nat → Nat → Bool} {vRo : Nat → Nat → Int32} (hW : zyW R vRo) (h c : Nat) : zyW (zadd R h c) (zup vRo h (upd (vRo h) c ((1 : Int32) &&& 1))) := by
  intro t k ht hk
  rw [zq_at]
  by_cases g : t = h
  · rw [if_pos g, zu_at]
    by_cases g2 : k = c
    · rw [if_pos g2, g, g2, zadd_at]; decide
    · rw [if_neg g2, ← g, hW t k ht hk]
      unfold zadd
      rw [decide_eq_false g2, Bool.and_false, Bool.or_false]
  · rw [if_neg g, hW t k ht hk]
    unfold zadd
    rw [decide_eq_false g, Bool.false_and, Bool.or_false]
/-- a rule applied: what it keeps, and what it leaves when nothing is new -/
theorem zy_applies (K : Nat) (hK : 5000 < K) {s : Nat → Nat} {vCol : Nat → Int32} {vRu : Nat → Nat → Int32} (hC : zyC s vCol) (hs : zRul s) (hR : zyR s vRu) {r : Nat} (hr : r < zrn s) (hi : zidle s r = false) (P : (Nat → Nat → Bool) → Prop) (hP : ∀ R n, P R → n < 8 ^ zrc s r → zgd2 R s r (zld n) = true → P (zadd R (zrh s r).1 (zrd2 s r (zld n)))) {R : Nat → Nat → Bool} {vRo : Nat → Nat → Int32} (hW : zyW R vRo) (hPR : P R) (vVa : Nat → Int32) :
    ∃ b R' vRo' vVa', hX13_applies K vCol vRu (nI r) vRo vVa = some (b, vRo', vVa') ∧ zyW R' vRo' ∧ P R' ∧ (b = false → R' = R ∧ ∀ n, n < 8 ^ zrc s r → zgd2 R s r (zld n) = true → R (zrh s r).1 (zrd2 s r (zld n)) = true) ∧ (b = true → zF0 R' < zF0 R) := by
  have hrn := hs.1
  obtain ⟨a1, a2, a3⟩ := hs.2 r hr
  have hr5 : r < 5 := by omega
  have h5 := a1.1
  have h8 := zp8 (zrc_le s r)
  have e1 : (1 : Int32) = nI 1 := rfl
  have h0 : vRu r 0 = nI (zrh s r).1 := hR r hr 0 (by omega)
  have hzb : ∀ (b : Bool) (z : (Nat → Nat → Int32) × (Nat → Int32)), (if bI b = 0 then some (false, z) else if bI b = 1 then some (true, z) else none) = some (b, z) := by intro b z; cases b <;> rfl
  unfold hX13_applies
  rw [show (0 : Int32) = bI false from rfl, zy_variablesOf K (by omega) hC hs hR hr false, Option.bind_some]
  obtain ⟨x, ⟨b, R', vRo', vVa', rfl, q1, q2, q3, q4⟩, e⟩ := z_for (F := fun k n (z : Bool × (Nat → Nat → Bool) × (Nat → Nat → Int32) × (Nat → Int32)) => hX13_applies_12 K vCol vRu (nI r) k (nI (zrb s r)) (bI z.1) (nI n) z.2.2.1 z.2.2.2) (n := 8 ^ zrc s r)
    (inv := fun n z => zyW z.2.1 z.2.2.1 ∧ P z.2.1 ∧ (z.1 = false → z.2.1 = R ∧ ∀ m, m < n → zgd2 R s r (zld m) = true → R (zrh s r).1 (zrd2 s r (zld m)) = true) ∧ (z.1 = true → zF0 z.2.1 < zF0 R))
    (post := fun x => ∃ b R' vRo' vVa', x = (b, vRo', vVa') ∧ zyW R' vRo' ∧ P R' ∧ (b = false → R' = R ∧ ∀ n, n < 8 ^ zrc s r → zgd2 R s r (zld n) = true → R (zrh s r).1 (zrd2 s r (zld n)) = true) ∧ (b = true → zF0 R' < zF0 R))
    (by
      rintro k n ⟨b0, R0, vRo0, vVa0⟩ hn ⟨w1, w2, w3, w4⟩
      have w1' : zyW R0 vRo0 := w1
      have w2' : P R0 := w2
      obtain ⟨v', g1, gg⟩ := zy_choice K (by omega) hC hs hR hr hi (show n < 100000 by omega) vVa0
      obtain ⟨g2, g3, g4⟩ := gg R0 vRo0 w1'
      have g3' : hX13_codeBy K 25 vCol v' (vRu r) (0 : Int32) = some (nI (zrd2 s r (zld n))) := g3
      have g4' : hX13_fits K 25 vCol vRo0 v' (vRu r) (0 : Int32) = some (R0 (zrh s r).1 (zrd2 s r (zld n))) := g4
      have hl := zrd2_lt hs hr (zld_lt n)
      left
      have st : hX13_applies_12 K vCol vRu (nI r) (k + 1) (nI (zrb s r)) (bI b0) (nI n) vRo0 vVa0 = if bI (zgd2 R0 s r (zld n)) = 0 then hX13_applies_12 K vCol vRu (nI r) k (nI (zrb s r)) (bI b0) (nI n + (1 : Int32)) vRo0 v' else if bI (R0 (zrh s r).1 (zrd2 s r (zld n))) = 0 then hX13_applies_12 K vCol vRu (nI r) k (nI (zrb s r)) (1 : Int32) (nI n + (1 : Int32)) (zup vRo0 (zrh s r).1 (upd (vRo0 (zrh s r).1) (zrd2 s r (zld n)) ((1 : Int32) &&& 1))) v' else hX13_applies_12 K vCol vRu (nI r) k (nI (zrb s r)) (bI b0) (nI n + (1 : Int32)) vRo0 v' := by
        rw [hX13_applies_12, g1, Option.bind_some, decide_eq_true hn, if_neg (show ¬ bI true = 0 by decide), g2, Option.bind_some, if_pos (zy_i5 hr5), zi_clamp (show r < 2147483648 by omega), g4', Option.bind_some, if_pos (zy_i5 hr5), if_pos (show inB (0 : Int32) 25 = true by decide), zy_c0, h0, if_pos (zy_i5 h5), if_pos (zy_i5 hr5), g3', Option.bind_some, if_pos (show inB (nI (zrd2 s r (zld n))) 512 = true by rw [zi_inB (by omega)]; exact hl), zi_clamp (show (zrh s r).1 < 2147483648 by omega), zi_clamp (show zrd2 s r (zld n) < 2147483648 by omega)]
        rfl
      cases hg : zgd2 R0 s r (zld n)
      · refine ⟨(b0, R0, vRo0, v'), ⟨w1', w2', ?_, w4⟩, ?_⟩
        · intro hb
          obtain ⟨c1, c2⟩ := w3 hb
          have c1' : R0 = R := c1
          refine ⟨c1', ?_⟩
          intro m hm hmg
          by_cases hmn : m = n
          · rw [hmn, ← c1', hg] at hmg; cases hmg
          · exact c2 m (by omega) hmg
        · show hX13_applies_12 K vCol vRu (nI r) (k + 1) (nI (zrb s r)) (bI b0) (nI n) vRo0 vVa0 = _
          rw [st, hg, if_pos (show bI false = 0 from rfl), nI_succ]
      · cases hf : R0 (zrh s r).1 (zrd2 s r (zld n))
        · refine ⟨(true, zadd R0 (zrh s r).1 (zrd2 s r (zld n)), zup vRo0 (zrh s r).1 (upd (vRo0 (zrh s r).1) (zrd2 s r (zld n)) ((1 : Int32) &&& 1)), v'), ⟨zyW_add w1' _ _, hP _ _ w2' hn hg, fun hb => absurd (show true = false from hb) (by decide), fun _ => ?_⟩, ?_⟩
          · have h1 := zF0_add h5 hl hf
            show zF0 (zadd R0 (zrh s r).1 (zrd2 s r (zld n))) < zF0 R
            cases hb0 : b0
            · have c1 : R0 = R := (w3 hb0).1
              rw [← c1]; exact h1
            · have c2 : zF0 R0 < zF0 R := w4 hb0
              omega
          · show hX13_applies_12 K vCol vRu (nI r) (k + 1) (nI (zrb s r)) (bI b0) (nI n) vRo0 vVa0 = _
            rw [st, hg, if_neg (show ¬ bI true = 0 by decide), hf, if_pos (show bI false = 0 from rfl), nI_succ]
            rfl
        · refine ⟨(b0, R0, vRo0, v'), ⟨w1', w2', ?_, w4⟩, ?_⟩
          · intro hb
            obtain ⟨c1, c2⟩ := w3 hb
            have c1' : R0 = R := c1
            refine ⟨c1', ?_⟩
            intro m hm hmg
            by_cases hmn : m = n
            · rw [hmn, ← c1']; exact hf
            · exact c2 m (by omega) hmg
          · show hX13_applies_12 K vCol vRu (nI r) (k + 1) (nI (zrb s r)) (bI b0) (nI n) vRo0 vVa0 = _
            rw [st, hg, if_neg (show ¬ bI true = 0 by decide), hf, if_neg (show ¬ bI true = 0 by decide), nI_succ])
    (by
      rintro k ⟨b0, R0, vRo0, vVa0⟩ ⟨w1, w2, w3, w4⟩
      obtain ⟨v', g1, gg⟩ := zy_choice K (by omega) hC hs hR hr hi (show 8 ^ zrc s r < 100000 by omega) vVa0
      refine ⟨_, ⟨b0, R0, vRo0, v', rfl, w1, w2, w3, w4⟩, ?_⟩
      show hX13_applies_12 K vCol vRu (nI r) (k + 1) (nI (zrb s r)) (bI b0) (nI (8 ^ zrc s r)) vRo0 vVa0 = _
      rw [hX13_applies_12, g1, Option.bind_some, decide_eq_false (Nat.lt_irrefl _), if_pos (show bI false = 0 from rfl)]
      exact hzb b0 (vRo0, v'))
    _ K 0 (false, R, vRo, vVa) (Nat.zero_add _) ⟨hW, hPR, fun _ => ⟨rfl, fun m hm => absurd hm (Nat.not_lt_zero _)⟩, fun h => absurd (show false = true from h) (by decide)⟩ (by omega)
  exact ⟨b, R', vRo', vVa', e, q1, q2, q3, q4⟩
/-- more rows give more, where what is asked with not stays -/
theorem zgv_mono {A B : Nat → Nat → Bool} {s : Nat → Nat} (hs : zRul s) {M : Nat → Nat} (hM : zLst (zE s) M) {r l : Nat} (hr : r < zrn s) (hl : M (zrh s r).1 = l) (hAB : ∀ t k, t < 5 → k < 512 → A t k = true → B t k = true) (hlow : ∀ t k, t < 5 → k < 512 → M t < l → B t k = true → A t k = true) {val : Nat → Nat} (hval : ∀ v, v < 4 → val v < 8) (h : zgv A s r val = true) : zgv B s r val = true := by
  unfold zgv at h ⊢
  rw [zall_iff] at h ⊢
  intro i hi
  have ha := ((hs.2 r hr).2.2 i hi).1
  have h1 := h i hi
  have hl5 := zaR_lt val hval ha
  cases hn : zbN s r i
  · rw [hn, Bool.bne_false] at h1
    rw [Bool.bne_false]
    exact hAB _ _ ha.1 hl5 h1
  · rw [hn, Bool.bne_true, Bool.not_eq_true'] at h1
    rw [Bool.bne_true, Bool.not_eq_true']
    have hst := hM.1 (zrh s r).1 (zba s r i).1 1 ⟨r, i, hr, hi, rfl, rfl, by rw [hn]; rfl⟩
    rw [← Bool.not_eq_true]
    intro g
    have := hlow _ _ ha.1 hl5 (by omega) g
    rw [h1] at this
    cases this
theorem zgiv_mono {A B : Nat → Nat → Bool} {s : Nat → Nat} (hs : zRul s) {M : Nat → Nat} (hM : zLst (zE s) M) {r l : Nat} (hr : r < zrn s) (hl : M (zrh s r).1 = l) (hAB : ∀ t k, t < 5 → k < 512 → A t k = true → B t k = true) (hlow : ∀ t k, t < 5 → k < 512 → M t < l → B t k = true → A t k = true) {k : Nat} (h : zgiv A s r k = true) : zgiv B s r k = true := by
  unfold zgiv at h ⊢
  rw [zany_iff] at h ⊢
  obtain ⟨y, hy, g⟩ := h
  rw [Bool.and_eq_true] at g
  refine ⟨y, hy, ?_⟩
  rw [Bool.and_eq_true]
  exact ⟨zgv_mono hs hM hr hl hAB hlow (fun v _ => Nat.mod_lt _ (by decide)) g.1, g.2⟩
/-- within a layer: between what was and what comes -/
def zQl (s : Nat → Nat) (M : Nat → Nat) (l : Nat) (R : Nat → Nat → Bool) : Prop := (∀ t k, t < 5 → k < 512 → R t k = true → (zly s M (l + 1)).1 t k = true) ∧ ∀ t k, t < 5 → k < 512 → (zly s M l).1 t k = true → R t k = true
theorem zly_step (s : Nat → Nat) (M : Nat → Nat) {t l : Nat} (ht : M t ≠ l) (k : Nat) : (zly s M (l + 1)).1 t k = (zly s M l).1 t k := by
  rw [zly]
  exact zrnd_off ht k _ _ _
theorem zQl_add {s : Nat → Nat} (hs : zRul s) {M : Nat → Nat} (hM : zLst (zE s) M) {r l : Nat} (hr : r < zrn s) (hi : zidle s r = false) (hl : M (zrh s r).1 = l) {R : Nat → Nat → Bool} (hQ : zQl s M l R) {n : Nat} (hn : n < 8 ^ zrc s r) (hg : zgd2 R s r (zld n) = true) : zQl s M l (zadd R (zrh s r).1 (zrd2 s r (zld n))) := by
  obtain ⟨q1, q2⟩ := hQ
  have hl5 := zrd2_lt hs hr (zld_lt n)
  refine ⟨?_, fun t k ht hk g => zadd_up (q2 t k ht hk g)⟩
  intro t k ht hk g
  rcases zadd_of g with g | ⟨rfl, rfl⟩
  · exact q1 t k ht hk g
  · have hlow : ∀ t k, t < 5 → k < 512 → M t < l → (zly s M (l + 1)).1 t k = true → R t k = true := by
      intro t k ht hk hlt g
      rw [zly_step s M (by omega) k] at g
      exact q2 t k ht hk g
    have hz : zgd2 (zly s M (l + 1)).1 s r (zld n) = true := zgv_mono hs hM hr hl q1 hlow (fun v _ => zld_lt _ _) hg
    have hgiv : zgiv (zly s M (l + 1)).1 s r (zrd2 s r (zld n)) = true := by
      rw [zgiv_d hs hr hi, zany_iff]
      exact ⟨n, hn, by rw [hz, decide_eq_true rfl]; rfl⟩
    refine zly_cl hs M l _ _ ht hk ?_
    unfold zgivs
    rw [zany_iff]
    refine ⟨r, hr, ?_⟩
    unfold zwk
    rw [hi, decide_eq_true hl, decide_eq_true rfl, hgiv]
    rfl
/-- where nothing is new the layer is done -/
theorem zQl_done {s : Nat → Nat} (hs : zRul s) {M : Nat → Nat} (hM : zLst (zE s) M) {l : Nat} {R : Nat → Nat → Bool} (hQ : zQl s M l R) (hcl : ∀ r, r < zrn s → zidle s r = false → M (zrh s r).1 = l → ∀ n, n < 8 ^ zrc s r → zgd2 R s r (zld n) = true → R (zrh s r).1 (zrd2 s r (zld n)) = true) : zeqR R (zly s M (l + 1)).1 := by
  obtain ⟨q1, q2⟩ := hQ
  have key : ∀ n b (z : (Nat → Nat → Bool) × Nat), (∀ t k, t < 5 → k < 512 → z.1 t k = true → R t k = true) → (∀ t k, t < 5 → k < 512 → M t < l → R t k = true → z.1 t k = true) → ∀ t k, t < 5 → k < 512 → (zrnd s M l n b z).1 t k = true → R t k = true := by
    intro n
    induction n with
    | zero =>
      intro b z h1 h2 t k ht hk g
      exact h1 t k ht hk g
    | succ n ih =>
      intro b z h1 h2 t k ht hk g
      rw [zrnd] at g
      cases b
      · rw [if_neg (by decide)] at g
        exact h1 t k ht hk g
      · rw [if_pos rfl] at g
        refine ih _ _ ?_ ?_ t k ht hk g
        · intro t k ht hk g
          have g' : zstp z.1 s M l t k = true := g
          unfold zstp at g'
          rw [Bool.or_eq_true] at g'
          rcases g' with g' | g'
          · exact h1 t k ht hk g'
          · unfold zgivs at g'
            rw [zany_iff] at g'
            obtain ⟨r, hr, g3⟩ := g'
            unfold zwk at g3
            rw [Bool.and_eq_true, Bool.and_eq_true, Bool.and_eq_true, decide_eq_true_eq, decide_eq_true_eq, Bool.not_eq_true'] at g3
            obtain ⟨⟨hi, hl⟩, rfl, hg⟩ := g3
            have hg2 := zgiv_mono hs hM hr hl h1 h2 hg
            rw [zgiv_d hs hr hi, zany_iff] at hg2
            obtain ⟨m, hm, g4⟩ := hg2
            rw [Bool.and_eq_true, decide_eq_true_eq] at g4
            rw [← g4.2]
            exact hcl r hr hi hl m hm g4.1
        · intro t k ht hk hlt g
          exact zstp_up (h2 t k ht hk hlt g)
  intro t k ht hk
  rw [Bool.eq_iff_iff]
  refine ⟨q1 t k ht hk, ?_⟩
  intro g
  rw [zly] at g
  refine key _ _ _ q2 ?_ t k ht hk g
  intro t k ht hk hlt g
  have := q1 t k ht hk g
  rw [zly_step s M (by omega) k] at this
  exact this
/-- one pass over the rules in a layer -/
theorem zy_f71 (K : Nat) (hK : 5000 < K) {s : Nat → Nat} {vCol : Nat → Int32} {vRu : Nat → Nat → Int32} (hC : zyC s vCol) (hs : zRul s) (hR : zyR s vRu) {M : Nat → Nat} (hM : zLst (zE s) M) (hM4 : ∀ t, t < 5 → M t ≤ 4) {vLa : Nat → Int32} (hLa : ∀ t, t < 5 → vLa t = nI (M t)) {l : Nat} (hl : l < 5) (vFa : Nat → Nat → Int32) (r51 : Int32 → Int32 → (Nat → Nat → Int32) → (Nat → Int32) → (Nat → Int32) → Option ((Nat → Nat → Int32) × (Nat → Int32) × (Nat → Int32))) (r62 : Int32 → Int32 → Int32 → (Nat → Nat → Int32) → (Nat → Int32) → (Nat → Int32) → Option ((Nat → Nat → Int32) × (Nat → Int32) × (Nat → Int32))) (x1 : Int32) {R : Nat → Nat → Bool} {vRo : Nat → Nat → Int32} (hW : zyW R vRo) (hQ : zQl s M l R) (vVa : Nat → Int32) :
    ∃ b R' vRo' vVa', hX13_follows_71 K (nI (zrn s)) vCol vFa vRu r51 r62 K x1 (nI l) 0 0 vRo vLa vVa = r62 x1 (nI l) (bI b) vRo' vLa vVa' ∧ zyW R' vRo' ∧ zQl s M l R' ∧ (b = false → R' = R ∧ ∀ r, r < zrn s → zidle s r = false → M (zrh s r).1 = l → ∀ n, n < 8 ^ zrc s r → zgd2 R s r (zld n) = true → R (zrh s r).1 (zrd2 s r (zld n)) = true) ∧ (b = true → zF0 R' < zF0 R) := by
  have hrn := hs.1
  obtain ⟨⟨b, R', vRo', vVa'⟩, ⟨q1, q2, q3, q4⟩, e⟩ := z_forD (F := fun k r (z : Bool × (Nat → Nat → Bool) × (Nat → Nat → Int32) × (Nat → Int32)) => hX13_follows_71 K (nI (zrn s)) vCol vFa vRu r51 r62 k x1 (nI l) (bI z.1) (nI r) z.2.2.1 vLa z.2.2.2) (n := zrn s)
    (inv := fun r z => zyW z.2.1 z.2.2.1 ∧ zQl s M l z.2.1 ∧ (z.1 = false → z.2.1 = R ∧ ∀ r', r' < r → zidle s r' = false → M (zrh s r').1 = l → ∀ n, n < 8 ^ zrc s r' → zgd2 R s r' (zld n) = true → R (zrh s r').1 (zrd2 s r' (zld n)) = true) ∧ (z.1 = true → zF0 z.2.1 < zF0 R))
    (D := fun z => r62 x1 (nI l) (bI z.1) z.2.2.1 vLa z.2.2.2)
    (by
      rintro k r ⟨b0, R0, vRo0, vVa0⟩ hr ⟨w1, w2, w3, w4⟩
      have w1' : zyW R0 vRo0 := w1
      have w2' : zQl s M l R0 := w2
      obtain ⟨a1, a2, a3⟩ := hs.2 r hr
      have hr5 : r < 5 := by omega
      have h5 := a1.1
      have h0 : vRu r 0 = nI (zrh s r).1 := hR r hr 0 (by omega)
      have hm4 := hM4 _ h5
      have st : hX13_follows_71 K (nI (zrn s)) vCol vFa vRu r51 r62 (k + 1) x1 (nI l) (bI b0) (nI r) vRo0 vLa vVa0 = if nI (M (zrh s r).1) = nI l then (if bI (zidle s r) = 0 then ((hX13_applies K vCol vRu (nI r) vRo0 vVa0).bind fun q111 => hX13_follows_71 K (nI (zrn s)) vCol vFa vRu r51 r62 k x1 (nI l) (bI b0 ||| bI q111.1) (nI r + (1 : Int32)) q111.2.1 vLa q111.2.2) else hX13_follows_71 K (nI (zrn s)) vCol vFa vRu r51 r62 k x1 (nI l) (bI b0) (nI r + (1 : Int32)) vRo0 vLa vVa0) else hX13_follows_71 K (nI (zrn s)) vCol vFa vRu r51 r62 k x1 (nI l) (bI b0) (nI r + (1 : Int32)) vRo0 vLa vVa0 := by
        rw [hX13_follows_71, if_neg (by rw [zi_le (by omega) (by omega)]; omega), if_pos (zy_i5 hr5), if_pos (show inB (0 : Int32) 25 = true by decide), zi_clamp (show r < 2147483648 by omega), zy_c0, h0, if_pos (zy_i5 h5), zi_clamp (show (zrh s r).1 < 2147483648 by omega), hLa _ h5, zy_isIdle K (by omega) hC hs hR hr, Option.bind_some]
        rfl
      have hskip : (zidle s r = true ∨ M (zrh s r).1 ≠ l) → hX13_follows_71 K (nI (zrn s)) vCol vFa vRu r51 r62 (k + 1) x1 (nI l) (bI b0) (nI r) vRo0 vLa vVa0 = hX13_follows_71 K (nI (zrn s)) vCol vFa vRu r51 r62 k x1 (nI l) (bI b0) (nI (r + 1)) vRo0 vLa vVa0 := by
        intro h
        rw [st, nI_succ]
        by_cases g : M (zrh s r).1 = l
        · rcases h with h | h
          · rw [if_pos (by rw [g]), h, if_neg (show ¬ bI true = 0 by decide)]
          · exact absurd g h
        · rw [if_neg (by rw [zi_eq (by omega) (by omega)]; exact g)]
      have keep : (zidle s r = true ∨ M (zrh s r).1 ≠ l) → b0 = false → ∀ r', r' < r + 1 → zidle s r' = false → M (zrh s r').1 = l → ∀ n, n < 8 ^ zrc s r' → zgd2 R s r' (zld n) = true → R (zrh s r').1 (zrd2 s r' (zld n)) = true := by
        intro h hb r' hr' hi' hl' n hn hg
        by_cases e : r' = r
        · rw [e] at hi' hl'
          rcases h with h | h
          · rw [h] at hi'; cases hi'
          · exact absurd hl' h
        · exact (w3 hb).2 r' (by omega) hi' hl' n hn hg
      cases hi : zidle s r
      · by_cases hml : M (zrh s r).1 = l
        · obtain ⟨b', R', vRo', vVa', ea, p1, p2, p3, p4⟩ := zy_applies K hK hC hs hR hr hi (zQl s M l) (fun R n hq hn hg => zQl_add hs hM hr hi hml hq hn hg) w1' w2' vVa0
          refine ⟨(b0 || b', R', vRo', vVa'), ⟨p1, p2, ?_, ?_⟩, ?_⟩
          · intro hb
            have hb' : (b0 || b') = false := hb
            rw [Bool.or_eq_false_iff] at hb'
            obtain ⟨c1, c2⟩ := w3 hb'.1
            have c1' : R0 = R := c1
            obtain ⟨d1, d2⟩ := p3 hb'.2
            refine ⟨d1.trans c1', ?_⟩
            intro r' hr' hi' hl' n hn hg
            by_cases e : r' = r
            · rw [e] at hn hg ⊢
              rw [← c1'] at hg ⊢
              exact d2 n hn hg
            · exact c2 r' (by omega) hi' hl' n hn hg
          · intro hb
            have hb' : (b0 || b') = true := hb
            show zF0 R' < zF0 R
            cases hb0 : b0
            · rw [hb0, Bool.false_or] at hb'
              have c1 : R0 = R := (w3 hb0).1
              rw [← c1]; exact p4 hb'
            · have c2 : zF0 R0 < zF0 R := w4 hb0
              cases hbb : b'
              · rw [(p3 hbb).1]; exact c2
              · have := p4 hbb; omega
          · show hX13_follows_71 K (nI (zrn s)) vCol vFa vRu r51 r62 (k + 1) x1 (nI l) (bI b0) (nI r) vRo0 vLa vVa0 = _
            rw [st, if_pos (by rw [hml]), hi, if_pos (show bI false = 0 from rfl), ea, Option.bind_some, nI_succ]
            show hX13_follows_71 K (nI (zrn s)) vCol vFa vRu r51 r62 k x1 (nI l) (bI b0 ||| bI b') (nI r + (1 : Int32)) vRo' vLa vVa' = _
            rw [zbI_or]
        · refine ⟨(b0, R0, vRo0, vVa0), ⟨w1', w2', fun hb => ⟨(w3 hb).1, keep (Or.inr hml) hb⟩, w4⟩, ?_⟩
          exact hskip (Or.inr hml)
      · refine ⟨(b0, R0, vRo0, vVa0), ⟨w1', w2', fun hb => ⟨(w3 hb).1, keep (Or.inl hi) hb⟩, w4⟩, ?_⟩
        exact hskip (Or.inl hi))
    (by
      rintro k ⟨b0, R0, vRo0, vVa0⟩ hinv
      show hX13_follows_71 K (nI (zrn s)) vCol vFa vRu r51 r62 (k + 1) x1 (nI l) (bI b0) (nI (zrn s)) vRo0 vLa vVa0 = _
      rw [hX13_follows_71, if_pos (by rw [zi_le (by omega) (by omega)]; exact Nat.le_refl _)])
    (zrn s) K 0 (false, R, vRo, vVa) (by omega) ⟨hW, hQ, fun _ => ⟨rfl, fun r' hr' => absurd hr' (Nat.not_lt_zero _)⟩, fun h => absurd (show false = true from h) (by decide)⟩ (by omega)
  exact ⟨b, R', vRo', vVa', e, q1, q2, q3, q4⟩
/-- the passes of a layer -/
theorem zy_f62 (K : Nat) (hK : 5000 < K) {s : Nat → Nat} {vCol : Nat → Int32} {vRu : Nat → Nat → Int32} (hC : zyC s vCol) (hs : zRul s) (hR : zyR s vRu) {M : Nat → Nat} (hM : zLst (zE s) M) (hM4 : ∀ t, t < 5 → M t ≤ 4) {vLa : Nat → Int32} (hLa : ∀ t, t < 5 → vLa t = nI (M t)) {l : Nat} (hl : l < 5) (vFa : Nat → Nat → Int32) (r51 : Int32 → Int32 → (Nat → Nat → Int32) → (Nat → Int32) → (Nat → Int32) → Option ((Nat → Nat → Int32) × (Nat → Int32) × (Nat → Int32))) (x1 : Int32) :
    ∀ d k (R : Nat → Nat → Bool) (vRo : Nat → Nat → Int32) (vVa : Nat → Int32) (b : Bool), zyW R vRo → zQl s M l R → (b = false → zeqR R (zly s M (l + 1)).1) → zF0 R + 2 ≤ d + (if b = true then 0 else 1) → d < k → ∃ R' vRo' vVa', hX13_follows_62 K (nI (zrn s)) vCol vFa vRu r51 k x1 (nI l) (bI b) vRo vLa vVa = r51 x1 (nI (l + 1)) vRo' vLa vVa' ∧ zyW R' vRo' ∧ zeqR R' (zly s M (l + 1)).1 := by
  intro d
  induction d with
  | zero =>
    intro k R vRo vVa b hW hQ hb hd hk
    exfalso
    split at hd <;> omega
  | succ d ih =>
    intro k R vRo vVa b hW hQ hb hd hk
    obtain ⟨k, rfl⟩ : ∃ z, k = z + 1 := ⟨k - 1, by omega⟩
    cases b
    · refine ⟨R, vRo, vVa, ?_, hW, hb rfl⟩
      rw [hX13_follows_62, if_pos (show bI false = 0 from rfl), nI_succ]
    · obtain ⟨b', R', vRo', vVa', e, q1, q2, q3, q4⟩ := zy_f71 K hK hC hs hR hM hM4 hLa hl vFa r51 (hX13_follows_62 K (nI (zrn s)) vCol vFa vRu r51 k) x1 hW hQ vVa
      have st : hX13_follows_62 K (nI (zrn s)) vCol vFa vRu r51 (k + 1) x1 (nI l) (bI true) vRo vLa vVa = hX13_follows_62 K (nI (zrn s)) vCol vFa vRu r51 k x1 (nI l) (bI b') vRo' vLa vVa' := by
        rw [hX13_follows_62, if_neg (show ¬ bI true = 0 by decide)]
        exact e
      rw [st]
      rw [if_pos rfl] at hd
      refine ih k R' vRo' vVa' b' q1 q2 ?_ ?_ (by omega)
      · intro hb'
        obtain ⟨c1, c2⟩ := q3 hb'
        rw [c1]
        rw [c1] at q2
        exact zQl_done hs hM q2 c2
      · cases hb' : b'
        · rw [(q3 hb').1, if_neg (by decide)]; omega
        · have := q4 hb'
          rw [if_pos rfl]; omega
theorem zy_follows (K : Nat) (hK : 10000 < K) {s : Nat → Nat} (hWF : zWF s) {vCol : Nat → Int32} {vRu : Nat → Nat → Int32} (hC : zyC s vCol) (hR : zyR s vRu) {vFa : Nat → Nat → Int32} (hF : zyW (zfacts s) vFa) (vRo : Nat → Nat → Int32) (vLa vVa : Nat → Int32) :
    ∃ vRo' vLa' vVa', hX13_follows K (nI (zrn s)) vCol vFa vRu vRo vLa vVa = some (vRo', vLa', vVa') ∧ zyW (zRw s) vRo' ∧ ∀ t, t < 5 → vLa' t = nI (zMs s t) := by
  have hs := hWF.2.2.2.2.2.2.1
  obtain ⟨hM, hM4⟩ := zMs_ok hWF
  obtain ⟨b, vLa', ef, h1, h2⟩ := zy_findsLayers K (by omega) hs hR vLa
  have hb : b = true := h1.2 ⟨_, hM.1⟩
  subst hb
  have hLa := h2 _ hM
  have e5 : (5 : Int32) = nI 5 := rfl
  have e512 : (512 : Int32) = nI 512 := rfl
  -- the facts first
  have c14 : ∀ (r7 : Int32 → Int32 → (Nat → Nat → Int32) → (Nat → Int32) → (Nat → Int32) → Option ((Nat → Nat → Int32) × (Nat → Int32) × (Nat → Int32))) (t : Nat) (vRo : Nat → Nat → Int32), t < 5 → (∀ u k, u < t → k < 512 → vRo u k = bI (zfacts s u k)) → ∃ vRo', (∀ u k, u < t + 1 → k < 512 → vRo' u k = bI (zfacts s u k)) ∧ hX13_follows_14 K (nI (zrn s)) vCol vFa vRu r7 K (bI true) (nI t) 0 vRo vLa' vVa = r7 (bI true) (nI t + (1 : Int32)) vRo' vLa' vVa := by
    intro r7 t vRo ht hv
    obtain ⟨z, ⟨hz1, hz2⟩, e⟩ := z_forD (F := fun k j (z : Nat → Nat → Int32) => hX13_follows_14 K (nI (zrn s)) vCol vFa vRu r7 k (bI true) (nI t) (nI j) z vLa' vVa) (n := 512) (inv := fun j z => (∀ u k, u < t → k < 512 → z u k = bI (zfacts s u k)) ∧ ∀ k, k < j → z t k = bI (zfacts s t k)) (D := fun z => r7 (bI true) (nI t + (1 : Int32)) z vLa' vVa)
      (by
        intro k j z hj hinv
        obtain ⟨w1, w2⟩ := hinv
        refine ⟨zup z t (upd (z t) j (vFa t j &&& 1)), ⟨?_, ?_⟩, ?_⟩
        · intro u k hu hk
          rw [zq_at, if_neg (by omega)]
          exact w1 u k hu hk
        · intro k hk
          rw [zq_at, if_pos rfl, zu_at]
          by_cases g : k = j
          · rw [if_pos g, hF t j ht hj, g]
            cases zfacts s t j <;> decide
          · rw [if_neg g]
            exact w2 k (by omega)
        · rw [hX13_follows_14, if_neg (show ¬ (512 : Int32) ≤ nI j by rw [e512, zi_le (by omega) (by omega)]; omega), if_pos (zy_i5 ht), if_pos (zy_i5 ht), if_pos (show inB (nI j) 512 = true by rw [zi_inB (by omega)]; exact hj), if_pos (show inB (nI j) 512 = true by rw [zi_inB (by omega)]; exact hj), zi_clamp (show t < 2147483648 by omega), zi_clamp (show j < 2147483648 by omega), ← nI_succ])
      (by
        intro k z hinv
        rw [hX13_follows_14, if_pos (show (512 : Int32) ≤ nI 512 by decide)]) 512 K 0 vRo (by omega) ⟨hv, fun k hk => absurd hk (Nat.not_lt_zero _)⟩ (by omega)
    refine ⟨z, ?_, e⟩
    intro u k hu hk
    by_cases g : u = t
    · rw [g]; exact hz2 k hk
    · exact hz1 u k (by omega) hk
  obtain ⟨vRo1, hv1, e1⟩ := z_forD (F := fun k t (z : Nat → Nat → Int32) => hX13_follows_7 K (nI (zrn s)) vCol vFa vRu k (bI true) (nI t) z vLa' vVa) (n := 5) (inv := fun t z => ∀ u k, u < t → k < 512 → z u k = bI (zfacts s u k)) (D := fun z => hX13_follows_51 K (nI (zrn s)) vCol vFa vRu K (bI true) 0 z vLa' vVa)
    (by
      intro k t z ht hinv
      obtain ⟨z', hz', e⟩ := c14 (hX13_follows_7 K (nI (zrn s)) vCol vFa vRu k) t z ht hinv
      refine ⟨z', hz', ?_⟩
      rw [hX13_follows_7, if_neg (show ¬ (5 : Int32) ≤ nI t by rw [e5, zi_le (by omega) (by omega)]; omega), nI_succ]
      exact e)
    (by
      intro k z hinv
      rw [hX13_follows_7, if_pos (show (5 : Int32) ≤ nI 5 by decide)]) 5 K 0 vRo (by omega) (fun u k hu => absurd hu (Nat.not_lt_zero _)) (by omega)
  have hW1 : zyW (zfacts s) vRo1 := fun t k ht hk => hv1 t k ht hk
  obtain ⟨x, ⟨vRo2, vVa2, rfl, hW2⟩, e2⟩ := z_for (F := fun k l (z : (Nat → Nat → Bool) × (Nat → Nat → Int32) × (Nat → Int32)) => hX13_follows_51 K (nI (zrn s)) vCol vFa vRu k (bI true) (nI l) z.2.1 vLa' z.2.2) (n := 5) (inv := fun l z => zyW z.1 z.2.1 ∧ zeqR z.1 (zly s (zMs s) l).1) (post := fun x => ∃ vRo2 vVa2, x = (vRo2, vLa', vVa2) ∧ zyW (zRw s) vRo2)
    (by
      rintro k l ⟨R, vR, vV⟩ hl ⟨w1, w2⟩
      left
      have w1' : zyW R vR := w1
      have w2' : zeqR R (zly s (zMs s) l).1 := w2
      have hQ : zQl s (zMs s) l R := by
        refine ⟨?_, fun t k ht hk g => by rw [w2' t k ht hk]; exact g⟩
        intro t k ht hk g
        rw [w2' t k ht hk] at g
        rw [zly]
        exact zrnd_up _ _ _ g
      have hF0 := zF0_le R
      obtain ⟨R', vRo', vVa', e, q1, q2⟩ := zy_f62 K (by omega) hC hs hR hM hM4 hLa hl vFa (hX13_follows_51 K (nI (zrn s)) vCol vFa vRu k) (bI true) (zF0 R + 2) K R vR vV true w1' hQ (fun h => absurd h (by decide)) (by rw [if_pos rfl]; omega) (by omega)
      refine ⟨(R', vRo', vVa'), ⟨q1, q2⟩, ?_⟩
      show hX13_follows_51 K (nI (zrn s)) vCol vFa vRu (k + 1) (bI true) (nI l) vR vLa' vV = _
      rw [hX13_follows_51, if_neg (show ¬ (5 : Int32) ≤ nI l by rw [e5, zi_le (by omega) (by omega)]; omega), if_neg (show ¬ bI true = 0 by decide)]
      exact e)
    (by
      rintro k ⟨R, vR, vV⟩ ⟨w1, w2⟩
      refine ⟨_, ⟨vR, vV, rfl, fun t k ht hk => ?_⟩, ?_⟩
      · have w1' := w1 t k ht hk
        have w2' := w2 t k ht hk
        exact w1'.trans (congrArg bI w2')
      · show hX13_follows_51 K (nI (zrn s)) vCol vFa vRu (k + 1) (bI true) (nI 5) vR vLa' vV = _
        rw [hX13_follows_51, if_pos (show (5 : Int32) ≤ nI 5 by decide)]) 5 K 0 (zfacts s, vRo1, vVa) (by omega) ⟨hW1, fun t k _ _ => rfl⟩ (by omega)
  refine ⟨vRo2, vLa', vVa2, ?_, hW2, hLa⟩
  unfold hX13_follows
  rw [ef, Option.bind_some]
  exact e1.trans e2
