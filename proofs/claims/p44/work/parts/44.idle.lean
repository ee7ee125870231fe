/-! idle rules, rules that work in a layer -/
def zbv (s : Nat → Nat) (r : Nat) (n : Bool) : Nat := zLV (zba s r) (zbN s r) n (zbn s r)
def zidle (s : Nat → Nat) (r : Nat) : Bool := decide (¬ ((nI (zaS (zrh s r)) ||| nI (zbv s r true)) &&& (nI (zbv s r false) ^^^ (-1 : Int32)) = 0))
theorem zbv_lt {s : Nat → Nat} (hs : zRul s) {r : Nat} (hr : r < zrn s) (n : Bool) : zbv s r n < 16 := zLV_lt (fun i hi => ((hs.2 r hr).2.2 i hi).1)
theorem zidle_sub : ∀ a : Fin 16, ∀ b : Fin 16, ∀ c : Fin 16, ((nI a.val ||| nI b.val) &&& (nI c.val ^^^ (-1 : Int32)) = 0) ↔ ∀ v : Fin 4, (a.val.testBit v.val || b.val.testBit v.val) = true → c.val.testBit v.val = true := by decide +kernel
theorem zidle_iff {s : Nat → Nat} (hs : zRul s) {r : Nat} (hr : r < zrn s) : zidle s r = false ↔ ∀ v, v < 4 → ((zaS (zrh s r)).testBit v || (zbv s r true).testBit v) = true → (zbv s r false).testBit v = true := by
  have h1 := zaS_lt (hs.2 r hr).1
  have h2 := zbv_lt hs hr true
  have h3 := zbv_lt hs hr false
  have := zidle_sub ⟨_, h1⟩ ⟨_, h2⟩ ⟨_, h3⟩
  simp only at this
  unfold zidle
  rw [decide_eq_false_iff_not, Classical.not_not, this]
  exact ⟨fun g v hv => g ⟨v, hv⟩, fun g v => g v.val v.isLt⟩
theorem zidle_0 {s : Nat → Nat} (hs : zRul s) {r : Nat} (hr : r < zrn s) (h0 : zbv s r false = 0) : zidle s r = true := by
  rw [← Bool.not_eq_false, zidle_iff hs hr]
  intro g
  have ha := (hs.2 r hr).1
  have := g _ ha.2.2.2.1 (by
    rw [zaS_bit ha ha.2.2.2.1]
    have h1 : zaH (zrh s r) (zrh s r).2.2.1 = true := by unfold zaH; simp
    rw [h1]; rfl)
  rw [h0] at this; simp at this
theorem zX9_rests (K : Nat) (hK : 5 < K) {heads : Nat → Int32} {bc : Nat → Nat → Int32} {bs : Nat → Int32} {rt : Int32} {s : Nat → Nat} (hs : zRul s) (hR : zRc heads bc bs rt s) {r : Nat} (hr : r < zrn s) : fX9_rests K heads bc bs (nI r) = some (zidle s r) := by
  have hrn := hs.1
  obtain ⟨c1, c2, c3⟩ := hR.2 r hr
  unfold fX9_rests
  rw [zX9_body (show r < 5 by omega), Option.bind_some, if_pos (by omega), c2, show (0 : Int32) = bI false from rfl, zX2_variables K hK c3 false, Option.bind_some, zX6_at heads (show r < 5 by omega) (by omega), Option.bind_some, c1, zX1_variables (hs.2 r hr).1, Option.bind_some, Option.bind_some, if_pos (by omega), c2, show (1 : Int32) = bI true from rfl, zX2_variables K hK c3 true, Option.bind_some]
  show (if (nI (zaS (zrh s r)) ||| nI (zbv s r true)) &&& (nI (zbv s r false) ^^^ (-1 : Int32)) = 0 then some false else some true) = _
  unfold zidle
  by_cases g : (nI (zaS (zrh s r)) ||| nI (zbv s r true)) &&& (nI (zbv s r false) ^^^ (-1 : Int32)) = 0
  · rw [if_pos g, decide_eq_false (fun q => q g)]
  · rw [if_neg g, decide_eq_true g]
theorem zX12_isNotAt {now : Nat → Int32} {s : Nat → Nat} (h : zM now s) {r i : Nat} (hr : r < 5) (hi : i < 4) : fX12_isNotAt now (nI r) (nI i) = some (zbN s r i) := by
  have hb := zbp_lt hr hi
  have hl := (h _ hb).2
  unfold fX12_isNotAt zbN
  rw [zX12_ruleAtomAt, Option.bind_some, show (4 : Int32) = nI 4 from rfl, zi_add, if_pos (by rw [zi_inB (by omega)]; exact hb), zi_clamp (by omega), (h _ hb).1]
  by_cases g : s (zbp r i + 4) = 1
  · rw [if_pos (by rw [g]; rfl), decide_eq_true g]
  · rw [if_neg (by rw [show (1 : Int32) = nI 1 from rfl, zi_eq (by omega) (by omega)]; exact g), decide_eq_false g]
theorem zX12_variablesOfRule (K : Nat) (hK : 5 < K) {now : Nat → Int32} {s : Nat → Nat} (h : zM now s) (hs : zRul s) {r : Nat} (hr : r < zrn s) (n : Bool) : fX12_variablesOfRule K now (nI r) (bI n) = some (nI (zbv s r n)) := by
  have hrn := hs.1
  obtain ⟨a1, a2, a3⟩ := hs.2 r hr
  unfold fX12_variablesOfRule
  refine z_forE (F := fun k i (u : Nat) => fX12_variablesOfRule_5 K now (nI r) (bI n) k (nI u) (nI i)) (n := zbn s r) (inv := fun i u => u = zLV (zba s r) (zbN s r) n i) ?_ ?_ (zbn s r) K 0 0 (by omega) rfl (by omega)
  · intro k i u hi hu
    left
    refine ⟨_, rfl, ?_⟩
    have hb := zbp_lt (show r < 5 by omega) (show i < 4 by omega)
    have hA := (a3 i hi).1
    have hbb : (bI (zbN s r i) = bI n) = (zbN s r i = n) := by cases zbN s r i <;> cases n <;> decide
    rw [fX12_variablesOfRule_5, zX12_ruleAtoms h (show r < 5 by omega), Option.bind_some, if_neg (by rw [zi_le (by omega) (by omega)]; omega), zX12_isNotAt h (by omega) (by omega), Option.bind_some]
    unfold fX12_variablesOfRule_40
    show _ = fX12_variablesOfRule_5 K now (nI r) (bI n) k (nI (zLV (zba s r) (zbN s r) n i ||| if zbN s r i = n then zaS (zba s r i) else 0)) (nI (i + 1))
    have e1 : (1 : Int32) = nI 1 := rfl
    by_cases g : zbN s r i = n
    · rw [if_pos (by rw [hbb]; exact g), if_pos g, zX12_ruleAtomAt, Option.bind_some, zX12_variables K (by omega) h (by omega) hA, Option.bind_some, zi_or, e1, zi_add, hu]; rfl
    · rw [if_neg (by rw [hbb]; exact g), if_neg g, Nat.or_zero, e1, zi_add, hu]
  · intro k u hu
    rw [fX12_variablesOfRule_5, zX12_ruleAtoms h (show r < 5 by omega), Option.bind_some, if_pos (by rw [zi_le (by omega) (by omega)]; omega), hu]; rfl
theorem zX12_isIdleRule (K : Nat) (hK : 5 < K) {now : Nat → Int32} {s : Nat → Nat} (h : zM now s) (hs : zRul s) {r : Nat} (hr : r < zrn s) : fX12_isIdleRule K now (nI r) = some (zidle s r) := by
  have hrn := hs.1
  obtain ⟨a1, a2, a3⟩ := hs.2 r hr
  have hh := zhp_lt (show r < 5 by omega)
  have hb3 := zbv_lt hs hr false
  unfold fX12_isIdleRule
  rw [show (0 : Int32) = bI false from rfl, zX12_variablesOfRule K hK h hs hr false, Option.bind_some, zX12_headAt, Option.bind_some, zX12_variables K (by omega) h (by omega) a1, Option.bind_some, show (1 : Int32) = bI true from rfl, zX12_variablesOfRule K hK h hs hr true, Option.bind_some]
  unfold fX12_isIdleRule_36
  by_cases g0 : zbv s r false = 0
  · rw [if_pos (by rw [g0]; rfl), zidle_0 hs hr g0]
  · rw [if_neg (by rw [show bI false = nI 0 from rfl, zi_eq (by omega) (by omega)]; exact g0)]
    show (if (nI (zaS (zrh s r)) ||| nI (zbv s r true)) &&& (nI (zbv s r false) ^^^ (-1 : Int32)) = 0 then some false else some true) = _
    unfold zidle
    by_cases g : (nI (zaS (zrh s r)) ||| nI (zbv s r true)) &&& (nI (zbv s r false) ^^^ (-1 : Int32)) = 0
    · rw [if_pos g, decide_eq_false (fun q => q g)]
    · rw [if_neg g, decide_eq_true g]
/-- a rule works in a layer -/
def zwk (s : Nat → Nat) (M : Nat → Nat) (l r : Nat) : Bool := !zidle s r && decide (M (zrh s r).1 = l)
theorem zX4_works (K : Nat) (hK : 5 < K) {heads : Nat → Int32} {bc : Nat → Nat → Int32} {bs : Nat → Int32} {rt : Int32} {s : Nat → Nat} (hs : zRul s) (hR : zRc heads bc bs rt s) {g : Nat → Int32} {M : Nat → Nat} (hg : ∀ t, t < 5 → g t = nI (M t)) (hM : ∀ t, t < 5 → M t ≤ 4) {r l : Nat} (hr : r < zrn s) (hl : l < 1000) : fX4_works K g heads bc bs (nI r) (nI l) = some (zwk s M l r) := by
  have hrn := hs.1
  obtain ⟨c1, c2, c3⟩ := hR.2 r hr
  have a1 := (hs.2 r hr).1
  have hh := a1.1
  have h4 := hM _ hh
  unfold fX4_works zwk
  rw [zX9_rests K hK hs hR hr, Option.bind_some]
  cases zidle s r
  · rw [if_pos (show bI false = 0 from rfl), zX6_at heads (show r < 5 by omega) (by omega), Option.bind_some, c1, zX1_table a1, Option.bind_some, zX6_at g hh (by omega), Option.bind_some, hg _ hh]
    by_cases q : M (zrh s r).1 = l
    · rw [if_pos (by rw [q]), decide_eq_true q]; rfl
    · rw [if_neg (by rw [zi_eq (by omega) (by omega)]; exact q), decide_eq_false q]; rfl
  · rw [if_neg (show ¬ bI true = 0 by decide)]; rfl
theorem zX4_hasWork (K : Nat) (hK : 5 < K) {heads : Nat → Int32} {bc : Nat → Nat → Int32} {bs : Nat → Int32} {rt : Int32} {s : Nat → Nat} (hs : zRul s) (hR : zRc heads bc bs rt s) {g : Nat → Int32} {M : Nat → Nat} (hg : ∀ t, t < 5 → g t = nI (M t)) (hM : ∀ t, t < 5 → M t ≤ 4) {l : Nat} (hl : l < 1000) : fX4_hasWork K g heads bc bs rt (nI l) = some (zany (zwk s M l) (zrn s)) := by
  have hrn := hs.1
  unfold fX4_hasWork
  refine z_forE (F := fun k r (_ : Unit) => fX4_hasWork_2 K g heads bc bs rt (nI l) k (nI r)) (n := zrn s) (inv := fun r _ => ∀ q, q < r → zwk s M l q = false) ?_ ?_ (zrn s) K 0 () (by omega) (fun q hq => absurd hq (Nat.not_lt_zero _)) (by omega)
  · intro k r _ hr hinv
    rw [fX4_hasWork_2, hR.1, if_neg (by rw [zi_le (by omega) (by omega)]; omega), zX4_works K hK hs hR hg hM hr hl, Option.bind_some]
    cases hw : zwk s M l r
    · left
      refine ⟨(), ?_, ?_⟩
      · intro q hq
        rcases Nat.lt_or_ge q r with g | g
        · exact hinv q g
        · rw [show q = r by omega]; exact hw
      · rw [if_pos (show bI false = 0 from rfl), show (1 : Int32) = nI 1 from rfl, zi_add]
    · right
      rw [if_neg (show ¬ bI true = 0 by decide)]
      congr 1
      exact (zany_iff.mpr ⟨r, hr, hw⟩).symm
  · intro k _ hinv
    rw [fX4_hasWork_2, hR.1, if_pos (by rw [zi_le (by omega) (by omega)]; omega)]
    congr 1
    symm
    rw [← Bool.not_eq_true, zany_iff]
    rintro ⟨q, hq, e⟩
    rw [hinv q hq] at e; exact absurd e (by decide)
theorem zX12_hasRules (K : Nat) (hK : 5 < K) {now : Nat → Int32} {s : Nat → Nat} (h : zM now s) (hs : zRul s) {g : Nat → Int32} {M : Nat → Nat} (hg : ∀ t, t < 5 → g t = nI (M t)) (hM : ∀ t, t < 5 → M t ≤ 4) {l : Nat} (hl : l < 1000) : fX12_hasRules K now g (nI l) = some (zany (zwk s M l) (zrn s)) := by
  have hrn := hs.1
  have h2654 := h 2654 (by omega)
  have c2654 : (2654 : Int32).toNatClampNeg = 2654 := by decide
  have i2654 : inB (2654 : Int32) 2780 = true := by decide
  have s2654 : s 2654 = zrn s := rfl
  have e1 : (1 : Int32) = nI 1 := rfl
  have bi : ∀ b : Bool, (if bI b = (0 : Int32) then some false else if bI b = 1 then some true else none) = some b := by intro b; cases b <;> rfl
  unfold fX12_hasRules
  refine z_forE (F := fun k r (b : Bool) => fX12_hasRules_4 K now g (nI l) k (bI b) (nI r)) (n := zrn s) (inv := fun r b => b = zany (zwk s M l) r) ?_ ?_ (zrn s) K 0 false (by omega) rfl (by omega)
  · intro k r b hr hb
    left
    refine ⟨zany (zwk s M l) (r + 1), rfl, ?_⟩
    have hh := zhp_lt (show r < 5 by omega)
    have a1 := (hs.2 r hr).1
    have hh5 : s (zhp r) < 5 := a1.1
    have h4 := hM _ hh5
    rw [fX12_hasRules_4, if_pos i2654, c2654, h2654.1, if_neg (by rw [zi_le (by omega) (by omega)]; omega), zany, ← hb]
    unfold fX12_hasRules_47 fX12_hasRules_51 fX12_hasRules_52
    cases b
    · rw [if_pos (show bI false = 0 from rfl), zX12_isIdleRule K hK h hs hr, Option.bind_some, Bool.false_or]
      unfold zwk
      cases zidle s r
      · rw [if_pos (show bI false = 0 from rfl), zX12_headAt, Option.bind_some, if_pos (by rw [zi_inB (by omega)]; omega), zi_clamp (by omega), (h _ (show zhp r < 2780 by omega)).1, if_pos (by rw [zi_inB (by omega)]; exact hh5), zi_clamp (by omega), hg _ hh5]
        have hd : (zrh s r).1 = s (zhp r) := rfl
        rw [hd]
        by_cases q : M (s (zhp r)) = l
        · rw [if_pos (by rw [q]), decide_eq_true q, e1, zi_add]; rfl
        · rw [if_neg (by rw [zi_eq (by omega) (by omega)]; exact q), decide_eq_false q, e1, zi_add]; rfl
      · rw [if_neg (show ¬ bI true = 0 by decide), e1, zi_add]; rfl
    · rw [if_neg (show ¬ bI true = 0 by decide), e1, zi_add]; rfl
  · intro k b hb
    rw [fX12_hasRules_4, if_pos i2654, c2654, h2654.1, if_pos (by rw [zi_le (by omega) (by omega)]; omega), bi, hb]
