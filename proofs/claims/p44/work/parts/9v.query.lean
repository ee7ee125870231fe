/-! the answers of a query: all values tried, and what the calls tell -/
def zyQm (s : Nat → Nat) (q : Nat) (A : Nat → zA) (many : Nat) : Prop := (∀ i, i < zqn s q → ∃ j, j < many ∧ zqa s q i = A j) ∧ ∀ j, j < many → ∃ i, i < zqn s q ∧ zqa s q i = A j
theorem zyQm_all {s : Nat → Nat} {q : Nat} {A : Nat → zA} {many : Nat} (h : zyQm s q A many) (p : zA → Bool) : zall (fun i => p (zqa s q i)) (zqn s q) = zall (fun j => p (A j)) many := by
  rw [Bool.eq_iff_iff, zall_iff, zall_iff]
  constructor
  · intro g j hj
    obtain ⟨i, hi, e⟩ := h.2 j hj
    rw [← e]; exact g i hi
  · intro g i hi
    obtain ⟨j, hj, e⟩ := h.1 i hi
    rw [e]; exact g j hj
theorem zbits_eq : ∀ a b : Fin 16, (∀ v : Fin 4, a.val.testBit v.val = b.val.testBit v.val) → a.val = b.val := by decide +kernel
theorem zyQm_V {s : Nat → Nat} {q : Nat} {A : Nat → zA} {many : Nat} (h : zyQm s q A many) (hQ : zQ s q) : zLV A (fun _ => false) false many = zqv s q := by
  have hA : ∀ j, j < many → zaOK (A j) := by
    intro j hj
    obtain ⟨i, hi, e⟩ := h.2 j hj
    rw [← e]; exact hQ.2 i hi
  have h1 : zLV A (fun _ => false) false many < 16 := zLV_lt hA
  have h2 := zqv_lt hQ
  refine zbits_eq ⟨_, h1⟩ ⟨_, h2⟩ ?_
  intro v
  show (zLV A (fun _ => false) false many).testBit v.val = (zqv s q).testBit v.val
  rw [zLV_bit v.isLt hA, zqv_bit hQ v.isLt, Bool.eq_iff_iff, zany_iff, zany_iff]
  constructor
  · rintro ⟨j, hj, g⟩
    obtain ⟨i, hi, e⟩ := h.2 j hj
    refine ⟨i, hi, ?_⟩
    rw [e]
    simpa using g
  · rintro ⟨i, hi, g⟩
    obtain ⟨j, hj, e⟩ := h.1 i hi
    refine ⟨j, hj, ?_⟩
    rw [← e]
    simpa using g
theorem zpc_123 (V : Nat) : ∀ v, v ≤ 4 → zpc 123 V v = zcnt (fun u => V.testBit u) v
  | 0, _ => rfl
  | v + 1, h => by rw [zpc, zcnt_s, zpc_123 V v (by omega), zod_123 v (by omega)]
theorem zaR_cong4 {a : zA} (ha : zaOK a) {f g : Nat → Nat} (h : ∀ v, v < 4 → f v = g v) : zaR a f = zaR a g := by
  obtain ⟨_, _, _, a4, a5, a6⟩ := ha
  unfold zaR
  rw [h _ a4, h _ a5, h _ a6]
theorem zqc_pos {s : Nat → Nat} {q : Nat} (h1 : zQ s q) (h2 : zOr (zqo s q)) (hn : 0 < zqn s q) : 0 < zqc s q := by
  have ha := h1.2 0 hn
  obtain ⟨_, _, m, hm, _⟩ := zq_atv h1 h2 (i := 0) (c := 0) hn (show 0 < (zqa s q 0).2.1 by have := ha.2.1; omega)
  omega
theorem zqc_eq {s : Nat → Nat} {q : Nat} (h1 : zQ s q) (h2 : zOr (zqo s q)) : zqc s q = zpc 123 (zqv s q) 4 := by
  show zpc (zqo s q) (zqv s q) 4 = _
  rw [zpc_cnt h2 (zqv_lt h1), zpc_123 _ 4 (Nat.le_refl _)]
/-- all values tried -/
def zdue (R : Nat → Nat → Bool) (A : Nat → zA) (many V n : Nat) : Bool := zall (fun j => R (A j).1 (zaR (A j) (zyv V n))) many
theorem zy_due {R : Nat → Nat → Bool} {s : Nat → Nat} {q : Nat} {A : Nat → zA} {many : Nat} (h : zyQm s q A many) (h1 : zQ s q) (h2 : zOr (zqo s q)) (hn : 0 < zqn s q) : zcnt (zdue R A many (zqv s q)) (8 ^ zpc 123 (zqv s q) 4) = zcnt (zqP R s q) 4096 := by
  rw [← zplain h1 h2 (zqc_pos h1 h2 hn), zqc_eq h1 h2]
  apply zcnt_cong
  intro y _
  unfold zdue zfa
  rw [← zyQm_all h (fun a => R a.1 (zaR a (zyv (zqv s q) y)))]
  apply zall_cong
  intro i hi
  have : zaR (zqa s q i) (zyv (zqv s q) y) = zaR (zqa s q i) (fun v => zspr (zqv s q) y 4 v % 8) := by
    apply zaR_cong4 (h1.2 i hi)
    intro v hv
    unfold zyv zspr
    by_cases g : (zqv s q).testBit v = true
    · rw [if_pos g, if_pos ⟨hv, g⟩, zpc_123 _ v (by omega)]
      unfold zld
      omega
    · rw [if_neg g, if_neg (fun q => g q.2)]
  rw [this]
/-- the atoms at hand, in an array of rows of four -/
def zyA (vCol : Nat → Int32) (vA : Nat → Nat → Int32) (A : Nat → zA) (many nA : Nat) : Prop := many ≤ nA ∧ nA < 1000 ∧ ∀ j, j < many → zGt vCol (vA j) 4 0 (A j)
theorem zy_fitAll (K : Nat) (hK : 100 < K) {vCol : Nat → Int32} {vA : Nat → Nat → Int32} {A : Nat → zA} {many nA : Nat} (hA : zyA vCol vA A many nA) (hm : many < 50) {R : Nat → Nat → Bool} {vRo : Nat → Nat → Int32} (hW : zyW R vRo) {vVa : Nat → Int32} {val : Nat → Nat} (hval : zMv vVa val) : hL_fitAll K nA vCol vRo vVa vA (nI many) = some (zall (fun j => R (A j).1 (zaR (A j) val)) many) := by
  obtain ⟨hn, hn2, hA⟩ := hA
  have hzb : ∀ b : Bool, (if bI b = 0 then some false else if bI b = 1 then some true else none) = some b := by intro b; cases b <;> rfl
  unfold hL_fitAll
  refine z_forE (F := fun k j (_ : Unit) => hL_fitAll_5 K nA vCol vRo vVa vA (nI many) k (bI (zall (fun j => R (A j).1 (zaR (A j) val)) j)) (nI j)) (n := many) (inv := fun _ _ => True) ?_ ?_ many K 0 () (by omega) trivial (by omega)
  · intro k j _ hj _
    cases hg : zall (fun j => R (A j).1 (zaR (A j) val)) j
    · right
      show hL_fitAll_5 K nA vCol vRo vVa vA (nI many) (k + 1) (bI false) (nI j) = _
      rw [hL_fitAll_5, if_neg (by rw [zi_le (by omega) (by omega)]; omega), if_pos (show bI false = 0 from rfl), hzb]
      congr 1
      symm
      rw [← Bool.not_eq_true, zall_iff]
      intro q
      have : zall (fun j => R (A j).1 (zaR (A j) val)) j = true := zall_iff.mpr (fun i hi => q i (by omega))
      rw [hg] at this
      cases this
    · left
      refine ⟨(), trivial, ?_⟩
      have hx : zall (fun j => R (A j).1 (zaR (A j) val)) (j + 1) = R (A j).1 (zaR (A j) val) := by
        show (zall _ j && _) = _
        rw [hg, Bool.true_and]
      have hf := zy_fits K (by omega) (hA j hj) hval hW
      have hf' : hX13_fits K 4 vCol vRo vVa (vA j) (0 : Int32) = some (R (A j).1 (zaR (A j) val)) := hf
      show hL_fitAll_5 K nA vCol vRo vVa vA (nI many) (k + 1) (bI true) (nI j) = hL_fitAll_5 K nA vCol vRo vVa vA (nI many) k (bI (zall (fun j => R (A j).1 (zaR (A j) val)) (j + 1))) (nI (j + 1))
      rw [hL_fitAll_5, if_neg (by rw [zi_le (by omega) (by omega)]; omega), if_neg (show ¬ bI true = 0 by decide), if_pos (show inB (nI j) nA = true by rw [zi_inB (by omega)]; omega), zi_clamp (show j < 2147483648 by omega), hf', Option.bind_some, hx, nI_succ]
  · intro k _ _
    show hL_fitAll_5 K nA vCol vRo vVa vA (nI many) (k + 1) (bI (zall (fun j => R (A j).1 (zaR (A j) val)) many)) (nI many) = _
    rw [hL_fitAll_5, if_pos (by rw [zi_le (by omega) (by omega)]; exact Nat.le_refl _), hzb]
theorem zy_bit {V v : Nat} (hV : V < 16) (hv : v < 4) : ((nI V >>> (nI v &&& (31 : Int32))) &&& (1 : Int32) = 0) ↔ V.testBit v = false := by
  have hs : v % 32 = v := by omega
  rw [show (31 : Int32) = nI 31 from rfl, show (1 : Int32) = nI 1 from rfl, zi_and, zn_and31, hs, zi_shrP (by omega) (by omega), zi_and, zn_and1, show (0 : Int32) = nI 0 from rfl, zi_eq (by omega) (by omega), Nat.testBit_eq_decide_div_mod_eq]
  simp
/-- the digits of an answer, read in its order -/
theorem zy_aa98 (K : Nat) (hK : 1000000 < K) {s : Nat → Nat} {L : List (Nat → Nat)} {q o c V y at' : Nat} (hq : q < 4) (ho : zqo s q = o) (hc : zqc s q = c) (hV : zqv s q = V) (hy : zqP (zRw s) s q y = true) (hat : zcnt (zqP (zRw s) s q) y = at') (hlt : at' < zcnt (zqP (zRw s) s q) 4096) (nA : Nat) (vCol : Nat → Int32) (vRo : Nat → Nat → Int32) (vA : Nat → Nat → Int32) (p6 p7 : Int32) (r52 : Int32 → Int32 → Int32 → zObj → (Nat → Int32) → Int64 → Option (Bool × zObj × (Nat → Int32) × Int64)) (x9 : Int32) (se : Int64) {O : zObj} (h : zIc O s L) {vVa : Nat → Int32} (hval : ∃ val, zMv vVa val) (vn : Nat → Int32) (hvn : ∀ m, m < 4 → vn m = 0) :
    ∃ O' vVa' vn', zIc O' s L ∧ (∃ val, zMv vVa' val ∧ ∀ v, v < 4 → V.testBit v = true → val v = zvy s q y v) ∧ (∀ m, m < 4 → vn' m = nI (if m < c then zdig c y m else 0)) ∧ hL_areAll_98 K nA vCol vRo vA (nI q) (nI o) p6 p7 r52 6 (nI V) x9 (nI at') 0 0 (1000 : Int32) O vVa se vn = if nI y ≤ x9 then some (false, O', vVa', se) else ((hL_fitAll K nA vCol vRo vVa' vA p6).bind fun q194 => if (bI q194) = 0 then (some (false, O', vVa', se)) else (if (nI at' - nI at' / (5 : Int32) * (5 : Int32)) = 0 then ((hL_seek K 4 vn' (nI q) O').bind fun q211 => if q211.1 = nI at' then (hL_areAll_221 K nA vCol vRo vA (nI q) (nI o) p6 p7 r52 (nI V) (nI at') (nI y) q211.2 vVa' se) else (some (false, q211.2, vVa', se))) else (hL_areAll_221 K nA vCol vRo vA (nI q) (nI o) p6 p7 r52 (nI V) (nI at') (nI y) O' vVa' se))) := by
  obtain ⟨h1, h2, h3⟩ := h.1.2.2.2.2.2.1 q hq
  have hV16 : V < 16 := by rw [← hV]; exact zqv_lt h1
  have hc4 : c ≤ 4 := by rw [← hc]; exact zqc_le s q
  have ho' := h2
  rw [ho] at ho'
  have ho4 := ho'.1
  have hcV : c = zpc o V 4 := by rw [← hc, ← ho, ← hV]; rfl
  have hyc : y < 8 ^ c := by
    unfold zqP zans at hy
    simp only [Bool.and_eq_true, decide_eq_true_eq] at hy
    rw [← hc]
    exact hy.1.2
  have h8 := zp8 hc4
  have hplm : ∀ j, j < 4 → V.testBit (zod o j) = true → zpc o V j < c ∧ zqpl s q (zpc o V j) = zod o j := by
    intro j hj hb
    have := zpl_to o V 4 j hj hb
    rw [hcV]
    refine ⟨this.1, ?_⟩
    show zpl (zqo s q) (zqv s q) 4 _ = _
    rw [ho, hV]
    exact this.2
  have hmono : ∀ i j, i < j → zpc o V i ≤ zpc o V j := by
    intro i j hij
    induction j with
    | zero => omega
    | succ j ih =>
      rw [zpc]
      by_cases g : i = j
      · rw [g]; omega
      · have := ih (by omega); omega
  obtain ⟨val0, hv0⟩ := hval
  have hcl := zcnt_le (zqP (zRw s) s q) 4096
  obtain ⟨⟨O', vVa', vn'⟩, ⟨k1, ⟨val, k2, k3⟩, k4⟩, e⟩ := z_forD (F := fun k j (z : zObj × (Nat → Int32) × (Nat → Int32)) => hL_areAll_98 K nA vCol vRo vA (nI q) (nI o) p6 p7 r52 k (nI V) x9 (nI at') (nI (zpc o V j)) (nI (y / 8 ^ (c - zpc o V j))) (nI (1000 / 10 ^ j)) z.1 z.2.1 se z.2.2) (n := 4)
    (inv := fun j z => zIc z.1 s L ∧ (∃ val, zMv z.2.1 val ∧ ∀ i, i < j → V.testBit (zod o i) = true → val (zod o i) = zvy s q y (zod o i)) ∧ ∀ m, m < 4 → z.2.2 m = nI (if m < zpc o V j then zdig c y m else 0))
    (D := fun z => if nI y ≤ x9 then some (false, z.1, z.2.1, se) else ((hL_fitAll K nA vCol vRo z.2.1 vA p6).bind fun q194 => if (bI q194) = 0 then (some (false, z.1, z.2.1, se)) else (if (nI at' - nI at' / (5 : Int32) * (5 : Int32)) = 0 then ((hL_seek K 4 z.2.2 (nI q) z.1).bind fun q211 => if q211.1 = nI at' then (hL_areAll_221 K nA vCol vRo vA (nI q) (nI o) p6 p7 r52 (nI V) (nI at') (nI y) q211.2 z.2.1 se) else (some (false, q211.2, z.2.1, se))) else (hL_areAll_221 K nA vCol vRo vA (nI q) (nI o) p6 p7 r52 (nI V) (nI at') (nI y) z.1 z.2.1 se))))
    (by
      rintro k j ⟨O1, vV, vN⟩ hj ⟨w1, ⟨val, w2, w3⟩, w4⟩
      have w1' : zIc O1 s L := w1
      have w2' : zMv vV val := w2
      have w4' : ∀ m, m < 4 → vN m = nI (if m < zpc o V j then zdig c y m else 0) := w4
      have hv4 := ho'.2.1 j hj
      have hpj := zpc_le o V j
      have b10 : 1000 / 10 ^ j = 10 ^ (3 - j) := by
        have : j = 0 ∨ j = 1 ∨ j = 2 ∨ j = 3 := by omega
        rcases this with e | e | e | e <;> subst e <;> rfl
      have b10' : 1000 / 10 ^ j / 10 = 1000 / 10 ^ (j + 1) := by
        have : j = 0 ∨ j = 1 ∨ j = 2 ∨ j = 3 := by omega
        rcases this with e | e | e | e <;> subst e <;> rfl
      have hpos : 0 < 1000 / 10 ^ j ∧ 1000 / 10 ^ j ≤ 1000 := by
        have : j = 0 ∨ j = 1 ∨ j = 2 ∨ j = 3 := by omega
        rcases this with e | e | e | e <;> subst e <;> decide
      have ev : nI o / nI (1000 / 10 ^ j) - nI o / nI (1000 / 10 ^ j) / (10 : Int32) * (10 : Int32) = nI (zod o j) := by
        rw [zi_div (by omega) hpos.1 (by omega), show (10 : Int32) = nI 10 from rfl]
        have hd : o / (1000 / 10 ^ j) < 2147483648 := Nat.lt_of_le_of_lt (Nat.div_le_self _ _) (by omega)
        rw [zi_rem hd (by omega) (by omega), b10]
        rfl
      have edv : nI (1000 / 10 ^ j) / (10 : Int32) = nI (1000 / 10 ^ (j + 1)) := by rw [show (10 : Int32) = nI 10 from rfl, zi_div (by omega) (by omega) (by omega), b10']
      have n1 : ¬ nI (1000 / 10 ^ j) ≤ 0 := by rw [show (0 : Int32) = nI 0 from rfl, zi_le (by omega) (by omega)]; omega
      have n2 : ¬ nI (1000 / 10 ^ j) = 0 := by rw [show (0 : Int32) = nI 0 from rfl, zi_eq (by omega) (by omega)]; omega
      have i4 : inB (nI (zod o j)) 4 = true := by rw [zi_inB (by omega)]; exact hv4
      cases hb : V.testBit (zod o j)
      · refine ⟨(O1, vV, vN), ⟨w1', ⟨val, w2', ?_⟩, ?_⟩, ?_⟩
        · intro i hi hbi
          by_cases g : i = j
          · rw [g, hb] at hbi; cases hbi
          · exact w3 i (by omega) hbi
        · intro m hm
          rw [zpc, hb]
          exact w4' m hm
        · show hL_areAll_98 K nA vCol vRo vA (nI q) (nI o) p6 p7 r52 (k + 1) (nI V) x9 (nI at') (nI (zpc o V j)) (nI (y / 8 ^ (c - zpc o V j))) (nI (1000 / 10 ^ j)) O1 vV se vN = hL_areAll_98 K nA vCol vRo vA (nI q) (nI o) p6 p7 r52 k (nI V) x9 (nI at') (nI (zpc o V (j + 1))) (nI (y / 8 ^ (c - zpc o V (j + 1)))) (nI (1000 / 10 ^ (j + 1))) O1 vV se vN
          rw [hL_areAll_98, if_neg n1, if_neg n2, ev, if_pos ((zy_bit hV16 hv4).2 hb)]
          unfold hL_areAll_172
          rw [edv, zpc, hb]
          rfl
      · obtain ⟨hmc, hpl⟩ := hplm j hj hb
        have hstand : zany (fun i => zaH (zqa s q i) (zod o j)) (zqn s q) = true := by
          rw [← zqv_bit h1 hv4, hV]; exact hb
        obtain ⟨O2, y2, y2a, y2b, y2c, e2, hO2⟩ := zd_answerAt K hK w1' hq hv4 hstand hlt
        have hyy : y2 = y := zrow_uniq y2b hy (by rw [y2c, hat])
        subst hyy
        have hzv : zvy s q y2 (zod o j) = zdig c y2 (zpc o V j) := by
          rw [← hpl, zvy_at h2 y2 (by rw [hc]; exact hmc), hc]
        have hd8 : zdig c y2 (zpc o V j) < 8 := Nat.mod_lt _ (by decide)
        refine ⟨(O2, upd vV (zod o j) (nI (zdig c y2 (zpc o V j))), upd vN (zpc o V j) (nI (zdig c y2 (zpc o V j)))), ⟨hO2, ⟨zup val (zod o j) (zdig c y2 (zpc o V j)), ?_, ?_⟩, ?_⟩, ?_⟩
        · intro v hv
          show upd vV _ _ v = nI (zup val _ _ v) ∧ zup val _ _ v < 8
          rw [zu_at, zq_at]
          split
          · exact ⟨rfl, hd8⟩
          · exact w2' v hv
        · intro i hi hbi
          by_cases g : i = j
          · rw [g, zup_at, hzv]
          · have hne : zod o i ≠ zod o j := ho'.2.2 i j (by omega) hj
            rw [zup_ne _ _ hne]
            exact w3 i (by omega) hbi
        · intro m hm
          show upd vN _ _ m = _
          rw [zu_at, zpc, hb, show (true).toNat = 1 from rfl]
          by_cases g : m = zpc o V j
          · rw [if_pos g, if_pos (by omega), g]
          · rw [if_neg g, w4' m hm]
            by_cases g2 : m < zpc o V j
            · rw [if_pos g2, if_pos (by omega)]
            · rw [if_neg g2, if_neg (by omega)]
        · show hL_areAll_98 K nA vCol vRo vA (nI q) (nI o) p6 p7 r52 (k + 1) (nI V) x9 (nI at') (nI (zpc o V j)) (nI (y2 / 8 ^ (c - zpc o V j))) (nI (1000 / 10 ^ j)) O1 vV se vN = hL_areAll_98 K nA vCol vRo vA (nI q) (nI o) p6 p7 r52 k (nI V) x9 (nI at') (nI (zpc o V (j + 1))) (nI (y2 / 8 ^ (c - zpc o V (j + 1)))) (nI (1000 / 10 ^ (j + 1))) O2 (upd vV (zod o j) (nI (zdig c y2 (zpc o V j)))) se (upd vN (zpc o V j) (nI (zdig c y2 (zpc o V j))))
          have im : inB (nI (zpc o V j)) 4 = true := by rw [zi_inB (by omega)]; omega
          have hnum : (8 : Int32) * nI (y2 / 8 ^ (c - zpc o V j)) + nI (zdig c y2 (zpc o V j)) = nI (y2 / 8 ^ (c - zpc o V (j + 1))) := by
            rw [show (8 : Int32) = nI 8 from rfl, zi_mul, zi_add]
            congr 1
            rw [zpc, hb, show (true).toNat = 1 from rfl]
            unfold zdig
            have e8 : y2 / 8 ^ (c - zpc o V j) = y2 / 8 ^ (c - (zpc o V j + 1)) / 8 := by
              have e9 : c - zpc o V j = c - (zpc o V j + 1) + 1 := by omega
              rw [e9, Nat.pow_succ, Nat.div_div_eq_div_mul]
            rw [e8, show c - 1 - zpc o V j = c - (zpc o V j + 1) by omega]
            omega
          rw [hL_areAll_98, if_neg n1, if_neg n2, ev, if_neg (by rw [zy_bit hV16 hv4, hb]; decide), e2, Option.bind_some, if_pos i4, if_pos i4, if_pos im, if_pos i4, zi_clamp (show zod o j < 2147483648 by omega), zi_clamp (show zpc o V j < 2147483648 by omega), hzv, zu_same, hnum]
          unfold hL_areAll_172
          rw [edv, zpc, hb, show (true).toNat = 1 from rfl, nI_succ])
    (by
      rintro k ⟨O1, vV, vN⟩ hinv
      show hL_areAll_98 K nA vCol vRo vA (nI q) (nI o) p6 p7 r52 (k + 1) (nI V) x9 (nI at') (nI (zpc o V 4)) (nI (y / 8 ^ (c - zpc o V 4))) (nI (1000 / 10 ^ 4)) O1 vV se vN = _
      rw [hL_areAll_98, if_pos (show nI (1000 / 10 ^ 4) ≤ 0 by decide), ← hcV, Nat.sub_self, Nat.pow_zero, Nat.div_one]) 4 6 0 (O, vVa, vn) (by omega) ⟨h, ⟨val0, hv0, fun i hi => absurd hi (Nat.not_lt_zero _)⟩, fun m hm => by show vn m = _; rw [hvn m hm]; rfl⟩ (by omega)
  have e0 : hL_areAll_98 K nA vCol vRo vA (nI q) (nI o) p6 p7 r52 6 (nI V) x9 (nI at') (nI (zpc o V 0)) (nI (y / 8 ^ (c - zpc o V 0))) (nI (1000 / 10 ^ 0)) O vVa se vn = _ := e
  have z0 : y / 8 ^ (c - zpc o V 0) = 0 := by
    show y / 8 ^ (c - 0) = 0
    rw [Nat.sub_zero, Nat.div_eq_of_lt hyc]
  rw [z0] at e0
  refine ⟨O', vVa', vn', k1, ⟨val, k2, ?_⟩, ?_, e0⟩
  · intro v hv hb
    obtain ⟨m, hm, hmv⟩ := zq_var h1 h2 hv (by rw [hV]; exact hb)
    obtain ⟨i, a1, a2, a3, a4⟩ := zpl_in o V 4 m (by rw [← hcV, ← hc]; exact hm)
    have hpl : zqpl s q m = zpl o V 4 m := by
      show zpl (zqo s q) (zqv s q) 4 m = _
      rw [ho, hV]
    have hvi : v = zod o i := by rw [← hmv, hpl, a2]
    rw [hvi]
    exact k3 i a1 a3
  · intro m hm
    have := k4 m hm
    rw [← hcV] at this
    exact this
