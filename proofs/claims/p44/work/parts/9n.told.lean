/-! what the law tells and reckons for itself, against s: atoms, rules, layers -/
/-- an atom in a row of numbers -/
def zGt (vCol vG : Nat → Int32) (nG p : Nat) (a : zA) : Prop := p + 3 < nG ∧ nG < 1000 ∧ zaOK a ∧ vG p = nI a.1 ∧ vG (p + 1) = nI a.2.2.1 ∧ vG (p + 2) = nI a.2.2.2.1 ∧ vG (p + 3) = nI a.2.2.2.2 ∧ vCol a.1 = nI a.2.1
theorem zGt_V {vCol vG : Nat → Int32} {nG p : Nat} {a : zA} (h : zGt vCol vG nG p a) {i : Nat} (hi : i < 3) : vG (p + 1 + i) = nI (zaV a i) := by
  obtain ⟨_, _, _, _, h1, h2, h3, _⟩ := h
  have : i = 0 ∨ i = 1 ∨ i = 2 := by omega
  rcases this with e | e | e <;> subst e
  · exact h1
  · exact h2
  · exact h3
theorem zy_variables (K : Nat) (hK : 3 < K) {vCol vG : Nat → Int32} {nG p : Nat} {a : zA} (h : zGt vCol vG nG p a) : hX13_variables K nG vCol vG (nI p) = some (nI (zaS a)) := by
  have hV := fun i (hi : i < 3) => zGt_V h hi
  obtain ⟨hp, hG, ha, h0, _, _, _, hc⟩ := h
  have ht : a.1 < 5 := ha.1
  have hw : a.2.1 ≤ 3 := ha.2.2.1
  have hw1 : 1 ≤ a.2.1 := ha.2.1
  unfold hX13_variables
  refine z_forE (F := fun k i (q : Nat) => hX13_variables_5 K nG vCol vG (nI p) k (nI q) (nI i)) (n := a.2.1) (inv := fun i q => q = zsum (fun _ => 0) i + (if 0 < i then 2 ^ a.2.2.1 else 0) ||| (if 1 < i then 2 ^ a.2.2.2.1 else 0) ||| (if 2 < i then 2 ^ a.2.2.2.2 else 0)) (V := some (nI (zaS a))) ?_ ?_ a.2.1 K 0 0 (by omega) (by simp [zsum]) (by omega)
  · intro k i q hi hq
    left
    refine ⟨_, rfl, ?_⟩
    have hv : zaV a i < 4 := zaV_lt ha (by omega)
    have hs : zaV a i % 32 = zaV a i := by omega
    simp (disch := omega) only [hX13_variables_5, zi_lit, zi_add, zi_inB, zi_clamp, h0, hc, zi_le, hV i (by omega), zi_and, zn_and31, hs, zi_shlP, zi_or, Nat.one_mul]
    rw [if_pos (by omega), if_pos (by omega), if_neg (by omega), if_pos (by omega), hq]
    congr 1
    have : i = 0 ∨ i = 1 ∨ i = 2 := by omega
    rcases this with e | e | e <;> subst e <;> simp [zsum, zaV]
  · intro k q hq
    simp (disch := omega) only [hX13_variables_5, zi_lit, zi_add, zi_inB, zi_clamp, h0, hc, zi_le]
    rw [if_pos (by omega), if_pos (by omega), if_pos (by omega), hq]
    unfold zaS
    simp only [zsum_0, Nat.zero_add]
    rw [if_pos (by omega)]
theorem zy_codeBy (K : Nat) (hK : 3 < K) {vCol vVa vG : Nat → Int32} {nG p : Nat} {a : zA} (h : zGt vCol vG nG p a) {val : Nat → Nat} (hval : zMv vVa val) : hX13_codeBy K nG vCol vVa vG (nI p) = some (nI (zaR a val)) := by
  have hV := fun i (hi : i < 3) => zGt_V h hi
  obtain ⟨hp, hG, ha, h0, _, _, _, hc⟩ := h
  have ht : a.1 < 5 := ha.1
  have hw : a.2.1 ≤ 3 := ha.2.2.1
  have hw1 : 1 ≤ a.2.1 := ha.2.1
  unfold hX13_codeBy
  refine z_forE (F := fun k i (q : Nat) => hX13_codeBy_5 K nG vCol vVa vG (nI p) k (nI q) (nI i)) (n := a.2.1) (inv := fun i q => q = (if 0 < i then 64 * val a.2.2.1 else 0) + (if 1 < i then 8 * val a.2.2.2.1 else 0) + (if 2 < i then val a.2.2.2.2 else 0)) (V := some (nI (zaR a val))) ?_ ?_ a.2.1 K 0 0 (by omega) (by simp) (by omega)
  · intro k i q hi hq
    left
    refine ⟨_, rfl, ?_⟩
    have hv : zaV a i < 4 := zaV_lt ha (by omega)
    have h8 := (hval _ hv).2
    have hs : (6 - 3 * i) % 32 = 6 - 3 * i := by omega
    simp (disch := omega) only [hX13_codeBy_5, zi_lit, zi_add, zi_mul, zi_sub, zi_inB, zi_clamp, h0, hc, zi_le, hV i (by omega), (hval _ hv).1, zi_and, zn_and31, hs, zi_shlP, zi_or]
    rw [if_pos (by omega), if_pos (by omega), if_neg (by omega), if_pos (by omega), if_pos (by omega), hq]
    congr 1
    have h81 : val a.2.2.2.1 < 8 := (hval _ ha.2.2.2.2.1).2
    have h82 : val a.2.2.2.2 < 8 := (hval _ ha.2.2.2.2.2).2
    have : i = 0 ∨ i = 1 ∨ i = 2 := by omega
    rcases this with e | e | e <;> subst e
    · simp [zaV]
      rw [Nat.mul_comm]
    · simp only [zaV, Nat.reduceMul, Nat.reduceSub, Nat.reducePow, Nat.reduceAdd, Nat.reduceLT, if_true, if_false, Nat.add_zero]
      have := zor_add (a := val a.2.2.1) (b := val a.2.2.2.1 * 8) (k := 6) (by omega)
      simp only [Nat.reducePow] at this
      rw [this, Nat.mul_comm (val a.2.2.2.1)]
    · simp only [zaV, Nat.reduceMul, Nat.reduceSub, Nat.reducePow, Nat.reduceAdd, Nat.reduceLT, if_true, if_false, Nat.add_zero]
      have := zor_add (a := 8 * val a.2.2.1 + val a.2.2.2.1) (b := val a.2.2.2.2) (k := 3) (by omega)
      simp only [Nat.reducePow] at this
      rw [show 64 * val a.2.2.1 + 8 * val a.2.2.2.1 = 8 * (8 * val a.2.2.1 + val a.2.2.2.1) by omega, Nat.mul_one, this]
  · intro k q hq
    simp (disch := omega) only [hX13_codeBy_5, zi_lit, zi_add, zi_inB, zi_clamp, h0, hc, zi_le]
    rw [if_pos (by omega), if_pos (by omega), if_pos (by omega), hq]
    unfold zaR
    rw [if_pos (by omega)]
/-- rows in an array of arrays -/
def zyW (R : Nat → Nat → Bool) (vRo : Nat → Nat → Int32) : Prop := ∀ t k, t < 5 → k < 512 → vRo t k = bI (R t k)
theorem zy_fits (K : Nat) (hK : 3 < K) {vCol vVa vG : Nat → Int32} {nG p : Nat} {a : zA} (h : zGt vCol vG nG p a) {val : Nat → Nat} (hval : zMv vVa val) {R : Nat → Nat → Bool} {vRo : Nat → Nat → Int32} (hR : zyW R vRo) : hX13_fits K nG vCol vRo vVa vG (nI p) = some (R a.1 (zaR a val)) := by
  have e := zy_codeBy K hK h hval
  obtain ⟨hp, hG, ha, h0, _, _, _, hc⟩ := h
  have ht : a.1 < 5 := ha.1
  have hl := zaR_lt val (fun v hv => (hval v hv).2) ha
  unfold hX13_fits
  rw [if_pos (by rw [zi_inB (by omega)]; omega), zi_clamp (show p < 2147483648 by omega), h0, if_pos (by rw [zi_inB (by omega)]; exact ht), e, Option.bind_some, if_pos (by rw [zi_inB (by omega)]; exact hl), zi_clamp (show a.1 < 2147483648 by omega), zi_clamp (show zaR a val < 2147483648 by omega), hR _ _ ht hl]
  exact zi_bB _
/-- the law's rules are those of s -/
def zyR (s : Nat → Nat) (vRu : Nat → Nat → Int32) : Prop := ∀ r, r < zrn s → ∀ j, j < 5 + 5 * zbn s r → vRu r j = nI (s (zhp r + j))
def zyC (s : Nat → Nat) (vCol : Nat → Int32) : Prop := ∀ t, t < 5 → vCol t = nI (s (1 + t))
theorem zyR_head {s : Nat → Nat} {vCol : Nat → Int32} {vRu : Nat → Nat → Int32} (hC : zyC s vCol) (hs : zRul s) (hR : zyR s vRu) {r : Nat} (hr : r < zrn s) : zGt vCol (vRu r) 25 0 (zrh s r) := by
  obtain ⟨a1, a2, a3⟩ := hs.2 r hr
  have h := fun j (hj : j < 5) => hR r hr j (by omega)
  exact ⟨by omega, by omega, a1, h 0 (by omega), h 1 (by omega), h 2 (by omega), h 3 (by omega), hC _ a1.1⟩
theorem zyR_atom {s : Nat → Nat} {vCol : Nat → Int32} {vRu : Nat → Nat → Int32} (hC : zyC s vCol) (hs : zRul s) (hR : zyR s vRu) {r i : Nat} (hr : r < zrn s) (hi : i < zbn s r) : zGt vCol (vRu r) 25 (5 + 5 * i) (zba s r i) := by
  obtain ⟨a1, a2, a3⟩ := hs.2 r hr
  have h := fun j (hj : j < 5) => hR r hr (5 + 5 * i + j) (by omega)
  have e := fun j => show zhp r + (5 + 5 * i + j) = zbp r i + j by unfold zbp; omega
  refine ⟨by omega, by omega, (a3 i hi).1, ?_, ?_, ?_, ?_, hC _ (a3 i hi).1.1⟩
  · have := h 0 (by omega); rw [e] at this; exact this
  · have := h 1 (by omega); rw [e] at this; exact this
  · have := h 2 (by omega); rw [e] at this; exact this
  · have := h 3 (by omega); rw [e] at this; exact this
theorem zyR_not {s : Nat → Nat} {vRu : Nat → Nat → Int32} (hs : zRul s) (hR : zyR s vRu) {r i : Nat} (hr : r < zrn s) (hi : i < zbn s r) : vRu r (9 + 5 * i) = bI (zbN s r i) := by
  obtain ⟨a1, a2, a3⟩ := hs.2 r hr
  have h := hR r hr (9 + 5 * i) (by omega)
  rw [h, show zhp r + (9 + 5 * i) = zbp r i + 4 by unfold zbp; omega]
  have h1 := (a3 i hi).2
  unfold zbN
  have : s (zbp r i + 4) = 0 ∨ s (zbp r i + 4) = 1 := by omega
  rcases this with e | e <;> rw [e] <;> rfl
theorem zyR_n {s : Nat → Nat} {vRu : Nat → Nat → Int32} (hR : zyR s vRu) {r : Nat} (hr : r < zrn s) : vRu r 4 = nI (zbn s r) := hR r hr 4 (by omega)
theorem zy_c4 : (4 : Int32).toNatClampNeg = 4 := by decide
theorem zy_i25 {p : Nat} (h : p < 25) : inB (nI p) 25 = true := by rw [zi_inB (by omega)]; exact h
theorem zy_i5 {p : Nat} (h : p < 5) : inB (nI p) 5 = true := by rw [zi_inB (by omega)]; exact h
theorem zy_variablesOf (K : Nat) (hK : 5 < K) {s : Nat → Nat} {vCol : Nat → Int32} {vRu : Nat → Nat → Int32} (hC : zyC s vCol) (hs : zRul s) (hR : zyR s vRu) {r : Nat} (hr : r < zrn s) (n : Bool) : hX13_variablesOf K vCol vRu (nI r) (bI n) = some (nI (zbv s r n)) := by
  have hrn := hs.1
  obtain ⟨a1, a2, a3⟩ := hs.2 r hr
  have hr5 : r < 5 := by omega
  unfold hX13_variablesOf
  refine z_forE (F := fun k i (u : Nat) => hX13_variablesOf_5 K vCol vRu (nI r) (bI n) k (nI u) (nI i)) (n := zbn s r) (inv := fun i u => u = zLV (zba s r) (zbN s r) n i) ?_ ?_ (zbn s r) K 0 0 (by omega) rfl (by omega)
  · intro k i u hi hu
    left
    refine ⟨_, rfl, ?_⟩
    have e9 : (9 : Int32) + ((5 : Int32) * nI i) = nI (9 + 5 * i) := by rw [show (9 : Int32) = nI 9 from rfl, show (5 : Int32) = nI 5 from rfl, zi_mul, zi_add]
    have e5 : (5 : Int32) + ((5 : Int32) * nI i) = nI (5 + 5 * i) := by rw [show (5 : Int32) = nI 5 from rfl, zi_mul, zi_add]
    have hbb : (bI (zbN s r i) = bI n) = (zbN s r i = n) := by cases zbN s r i <;> cases n <;> decide
    rw [hX13_variablesOf_5, if_pos (zy_i5 hr5), if_pos (show inB (4 : Int32) 25 = true by decide), zi_clamp (show r < 2147483648 by omega), zy_c4, zyR_n hR hr, if_neg (by rw [zi_le (by omega) (by omega)]; omega), if_pos (zy_i5 hr5), e9, if_pos (zy_i25 (by omega)), zi_clamp (show 9 + 5 * i < 2147483648 by omega), zyR_not hs hR hr hi]
    unfold hX13_variablesOf_55
    show _ = hX13_variablesOf_5 K vCol vRu (nI r) (bI n) k (nI (zLV (zba s r) (zbN s r) n i ||| if zbN s r i = n then zaS (zba s r i) else 0)) (nI (i + 1))
    have e1 : (1 : Int32) = nI 1 := rfl
    by_cases g : zbN s r i = n
    · rw [if_pos (by rw [hbb]; exact g), if_pos g, if_pos (zy_i5 hr5), e5, zy_variables K (by omega) (zyR_atom hC hs hR hr hi), Option.bind_some, zi_or, e1, zi_add, hu]
    · rw [if_neg (by rw [hbb]; exact g), if_neg g, Nat.or_zero, e1, zi_add, hu]
  · intro k u hu
    rw [hX13_variablesOf_5, if_pos (zy_i5 hr5), if_pos (show inB (4 : Int32) 25 = true by decide), zi_clamp (show r < 2147483648 by omega), zy_c4, zyR_n hR hr, if_pos (by rw [zi_le (by omega) (by omega)]; omega), hu]; rfl
theorem zy_isIdle (K : Nat) (hK : 5 < K) {s : Nat → Nat} {vCol : Nat → Int32} {vRu : Nat → Nat → Int32} (hC : zyC s vCol) (hs : zRul s) (hR : zyR s vRu) {r : Nat} (hr : r < zrn s) : hX13_isIdle K vCol vRu (nI r) = some (zidle s r) := by
  have hrn := hs.1
  have hb3 := zbv_lt hs hr false
  have hr5 : r < 5 := by omega
  unfold hX13_isIdle
  rw [show (0 : Int32) = bI false from rfl, zy_variablesOf K hK hC hs hR hr false, Option.bind_some]
  unfold hX13_isIdle_36
  by_cases g0 : zbv s r false = 0
  · rw [if_pos (by rw [g0]; rfl), zidle_0 hs hr g0]
  · rw [if_neg (by rw [show bI false = nI 0 from rfl, zi_eq (by omega) (by omega)]; exact g0), if_pos (zy_i5 hr5), zi_clamp (show r < 2147483648 by omega), show bI false = nI 0 from rfl, zy_variables K (by omega) (zyR_head hC hs hR hr), Option.bind_some, show (1 : Int32) = bI true from rfl, zy_variablesOf K hK hC hs hR hr true, Option.bind_some]
    show (if (nI (zaS (zrh s r)) ||| nI (zbv s r true)) &&& (nI (zbv s r false) ^^^ (-1 : Int32)) = 0 then some false else some true) = _
    unfold zidle
    by_cases g : (nI (zaS (zrh s r)) ||| nI (zbv s r true)) &&& (nI (zbv s r false) ^^^ (-1 : Int32)) = 0
    · rw [if_pos g, decide_eq_false (fun q => q g)]
    · rw [if_neg g, decide_eq_true g]
theorem zy_gives (K : Nat) (hK : 5 < K) {s : Nat → Nat} {vCol : Nat → Int32} {vRu : Nat → Nat → Int32} (hC : zyC s vCol) (hs : zRul s) (hR : zyR s vRu) {R : Nat → Nat → Bool} {vRo : Nat → Nat → Int32} (hW : zyW R vRo) {r : Nat} (hr : r < zrn s) {vVa : Nat → Int32} {val : Nat → Nat} (hval : zMv vVa val) : hX13_gives K vCol vRu vRo vVa (nI r) = some (zgv R s r val) := by
  have hrn := hs.1
  obtain ⟨a1, a2, a3⟩ := hs.2 r hr
  have hr5 : r < 5 := by omega
  have e1 : (1 : Int32) = nI 1 := rfl
  have hzb : ∀ b : Bool, (if bI b = 0 then some false else if bI b = 1 then some true else none) = some b := by intro b; cases b <;> rfl
  unfold hX13_gives
  have h0 : (1 : Int32) = bI (zall (fun i => (R (zba s r i).1 (zaR (zba s r i) val)) != (zbN s r i)) 0) := rfl
  have h00 : (0 : Int32) = nI 0 := rfl
  rw [h00]
  refine Eq.trans (congrArg (fun z => hX13_gives_4 K vCol vRu vRo vVa (nI r) K z (nI 0)) h0) ?_
  refine z_forE (F := fun k i (_ : Unit) => hX13_gives_4 K vCol vRu vRo vVa (nI r) k (bI (zall (fun i => (R (zba s r i).1 (zaR (zba s r i) val)) != (zbN s r i)) i)) (nI i)) (n := zbn s r) (inv := fun _ _ => True) ?_ ?_ (zbn s r) K 0 () (by omega) trivial (by omega)
  · intro k i _ hi _
    have e9 : (9 : Int32) + ((5 : Int32) * nI i) = nI (9 + 5 * i) := by rw [show (9 : Int32) = nI 9 from rfl, show (5 : Int32) = nI 5 from rfl, zi_mul, zi_add]
    have e5 : (5 : Int32) + ((5 : Int32) * nI i) = nI (5 + 5 * i) := by rw [show (5 : Int32) = nI 5 from rfl, zi_mul, zi_add]
    rw [hX13_gives_4, if_pos (zy_i5 hr5), if_pos (show inB (4 : Int32) 25 = true by decide), zi_clamp (show r < 2147483648 by omega), zy_c4, zyR_n hR hr, if_neg (by rw [zi_le (by omega) (by omega)]; omega)]
    cases hg : zall (fun i => (R (zba s r i).1 (zaR (zba s r i) val)) != (zbN s r i)) i
    · right
      rw [if_pos (show bI false = 0 from rfl), hzb]
      congr 1
      symm
      rw [← Bool.not_eq_true]
      unfold zgv
      rw [zall_iff]
      intro q
      have : zall (fun i => (R (zba s r i).1 (zaR (zba s r i) val)) != (zbN s r i)) i = true := zall_iff.mpr (fun j hj => q j (by omega))
      rw [hg] at this
      cases this
    · left
      refine ⟨(), trivial, ?_⟩
      rw [if_neg (show ¬ bI true = 0 by decide), if_pos (zy_i5 hr5), e5, zy_fits K (by omega) (zyR_atom hC hs hR hr hi) hval hW, Option.bind_some, if_pos (zy_i5 hr5), e9, if_pos (zy_i25 (by omega)), zi_clamp (show 9 + 5 * i < 2147483648 by omega), zyR_not hs hR hr hi]
      unfold hX13_gives_57 hX13_gives_65
      have hx : zall (fun i => (R (zba s r i).1 (zaR (zba s r i) val)) != (zbN s r i)) (i + 1) = (R (zba s r i).1 (zaR (zba s r i) val) != zbN s r i) := by
        show (zall _ i && _) = _
        rw [hg, Bool.true_and]
      rw [hx, nI_succ]
      cases R (zba s r i).1 (zaR (zba s r i) val) <;> cases zbN s r i <;> rfl
  · intro k _ _
    rw [hX13_gives_4, if_pos (zy_i5 hr5), if_pos (show inB (4 : Int32) 25 = true by decide), zi_clamp (show r < 2147483648 by omega), zy_c4, zyR_n hR hr, if_pos (by rw [zi_le (by omega) (by omega)]; omega), hzb]
    rfl
/-- the digits of a choice, the lowest first, over the variables in V -/
def zyv (V n v : Nat) : Nat := if V.testBit v = true then zld n (zpc 123 V v) else 0
theorem zyv_lt (V n v : Nat) : zyv V n v < 8 := by
  unfold zyv
  split
  · exact zld_lt _ _
  · omega
theorem zy_chooses (K : Nat) (hK : 4 < K) {V : Nat} (hV : V < 16) {n : Nat} (hn : n < 100000) (vVa : Nat → Int32) :
    ∃ vVa', hX13_chooses K (nI V) (nI n) vVa = some (decide (n < 8 ^ zpc 123 V 4), vVa') ∧ zMv vVa' (zyv V n) := by
  unfold hX13_chooses
  have e1 : (1 : Int32) = nI 1 := rfl
  obtain ⟨x, ⟨v', h1, h2⟩, e⟩ := z_for (F := fun k j (z : Nat → Int32) => hX13_chooses_5 K (nI V) (nI n) k (nI (n / 8 ^ zpc 123 V j)) (nI j) z) (n := 4)
    (inv := fun j z => ∀ v, v < j → z v = nI (zyv V n v))
    (post := fun x => ∃ v', x = (decide (n < 8 ^ zpc 123 V 4), v') ∧ zMv v' (zyv V n))
    (by
      intro k j z hj hinv
      left
      have hod := zod_123 j hj
      have hdl : n / 8 ^ zpc 123 V j < 100000 := Nat.lt_of_le_of_lt (Nat.div_le_self _ _) hn
      have hs : j % 32 = j := by omega
      have ecnd : (nI V >>> (nI j &&& (31 : Int32)) &&& (1 : Int32) = (0 : Int32)) ↔ V.testBit j = false := by
        rw [show (31 : Int32) = nI 31 from rfl, e1, zi_and, zn_and31, hs, zi_shrP (by omega) (by omega), zi_and, zn_and1, show (0 : Int32) = nI 0 from rfl, zi_eq (by omega) (by omega)]
        rw [Nat.testBit_eq_decide_div_mod_eq]
        simp
      have i4 : inB (nI j) 4 = true := by rw [zi_inB (by omega)]; exact hj
      by_cases hb : V.testBit j = true
      · refine ⟨upd (upd z j 0) j (nI (zld n (zpc 123 V j))), ?_, ?_⟩
        · intro u hu
          rw [zu_at]
          by_cases g : u = j
          · rw [if_pos g, g]
            unfold zyv
            rw [if_pos hb]
          · rw [if_neg g, zu_ne z 0 g]
            exact hinv u (by omega)
        · rw [hX13_chooses_5, if_neg (by rw [show (4 : Int32) = nI 4 from rfl, zi_le (by omega) (by omega)]; omega), if_pos i4, if_neg (by rw [ecnd, hb]; decide), if_pos i4]
          unfold hX13_chooses_46
          rw [zi_clamp (show j < 2147483648 by omega), show (7 : Int32) = nI 7 from rfl, zi_and, zn_and7, show (3 : Int32) = nI 3 from rfl, show (31 : Int32) = nI 31 from rfl, zi_and, zn_and31, zi_shrP (by omega) (by decide), e1, zi_add, zpc, hod, hb]
          have e8 : n / 8 ^ (zpc 123 V j + 1) = n / 8 ^ zpc 123 V j / 8 := by rw [Nat.pow_succ, Nat.div_div_eq_div_mul]
          show _ = hX13_chooses_5 K (nI V) (nI n) k (nI (n / 8 ^ (zpc 123 V j + 1))) _ _
          rw [e8]; rfl
      · refine ⟨upd z j 0, ?_, ?_⟩
        · intro u hu
          rw [zu_at]
          by_cases g : u = j
          · rw [if_pos g, g]
            unfold zyv
            rw [if_neg hb]
            rfl
          · rw [if_neg g]
            exact hinv u (by omega)
        · rw [Bool.not_eq_true] at hb
          rw [hX13_chooses_5, if_neg (by rw [show (4 : Int32) = nI 4 from rfl, zi_le (by omega) (by omega)]; omega), if_pos i4, if_pos (ecnd.mpr hb)]
          unfold hX13_chooses_46
          rw [zi_clamp (show j < 2147483648 by omega), e1, zi_add, zpc, hod, hb]; rfl)
    (by
      intro k z hinv
      refine ⟨_, ⟨z, rfl, fun v hv => ⟨hinv v hv, zyv_lt _ _ _⟩⟩, ?_⟩
      have hdl : n / 8 ^ zpc 123 V 4 < 100000 := Nat.lt_of_le_of_lt (Nat.div_le_self _ _) hn
      have hpow : 0 < 8 ^ zpc 123 V 4 := Nat.pow_pos (by decide)
      rw [hX13_chooses_5, if_pos (by decide)]
      have hiff : n / 8 ^ zpc 123 V 4 = 0 ↔ n < 8 ^ zpc 123 V 4 := by
        rw [Nat.div_eq_zero_iff]; omega
      by_cases g : n < 8 ^ zpc 123 V 4
      · rw [if_pos (by rw [hiff.mpr g]; rfl), decide_eq_true g]
      · rw [if_neg (by rw [show (0 : Int32) = nI 0 from rfl, zi_eq (by omega) (by omega)]; exact fun q => g (hiff.mp q)), decide_eq_false g])
    4 K 0 vVa (by omega) (fun v hv => absurd hv (Nat.not_lt_zero _)) (by omega)
  have e' : hX13_chooses_5 K (nI V) (nI n) K (nI (n / 8 ^ zpc 123 V 0)) (nI 0) vVa = some x := e
  rw [show zpc 123 V 0 = 0 from rfl, Nat.pow_zero, Nat.div_one, h1] at e'
  exact ⟨v', e', h2⟩
/-- a choice of values for a rule -/
theorem zy_choice (K : Nat) (hK : 5 < K) {s : Nat → Nat} {vCol : Nat → Int32} {vRu : Nat → Nat → Int32} (hC : zyC s vCol) (hs : zRul s) (hR : zyR s vRu) {r : Nat} (hr : r < zrn s) (hi : zidle s r = false) {n : Nat} (hn : n < 100000) (vVa : Nat → Int32) :
    ∃ vVa', hX13_chooses K (nI (zrb s r)) (nI n) vVa = some (decide (n < 8 ^ zrc s r), vVa') ∧ ∀ (R : Nat → Nat → Bool) (vRo : Nat → Nat → Int32), zyW R vRo → hX13_gives K vCol vRu vRo vVa' (nI r) = some (zgd2 R s r (zld n)) ∧ hX13_codeBy K 25 vCol vVa' (vRu r) (nI 0) = some (nI (zrd2 s r (zld n))) ∧ hX13_fits K 25 vCol vRo vVa' (vRu r) (nI 0) = some (R (zrh s r).1 (zrd2 s r (zld n))) := by
  obtain ⟨v', e, h1⟩ := zy_chooses K (by omega) (zbv_lt hs hr false) hn vVa
  have h1 : zMv v' (zyv (zrb s r) n) := h1
  refine ⟨v', e, fun R vRo hW => ?_⟩
  have hat : ∀ m, m < zrc s r → zyv (zrb s r) n (zrpl s r m) = zvd s r (zld n) (zrpl s r m) := by
    intro m hm
    rw [zvd_at s r _ hm]
    have hbit : (zrb s r).testBit (zrpl s r m) = true := by
      obtain ⟨q, a1, a2, a3, a4⟩ := zpl_in 123 (zrb s r) 4 m hm
      show (zrb s r).testBit (zpl 123 (zrb s r) 4 m) = true
      rw [a2]; exact a3
    unfold zyv
    rw [if_pos hbit]
    have := zvd_at s r (zld n) hm
    unfold zvd at this
    exact this
  have hrw : zaR (zrh s r) (zyv (zrb s r) n) = zrd2 s r (zld n) := zaR_pl (hs.2 r hr).1 (zrV hs hr hi).1 hat
  refine ⟨?_, ?_, ?_⟩
  · rw [zy_gives K hK hC hs hR hW hr h1]
    have : zgv R s r (zyv (zrb s r) n) = zgd2 R s r (zld n) := zgv_pl hs hr hi hat
    rw [this]
  · rw [zy_codeBy K (by omega) (zyR_head hC hs hR hr) h1, hrw]
  · rw [zy_fits K (by omega) (zyR_head hC hs hR hr) h1 hW, hrw]
